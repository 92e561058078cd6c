/** The boundary cases of CARRY, as an argument, as a result and in give; above each its rule. */
public final class EdgeCarryTest {
    private static final int GET0 = CapMembrane.OP_GET0;
    private static final int SET0 = CapMembrane.OP_SET0;

    private static final Due due = new Due("EdgeCarryTest");

    public static void main(String[] args) {
        nil();
        unwrap();
        unwrapOnlyThatMembranes();
        forwarderThatStands();
        forwarderOfThatDomain();
        newForwarder();
        revokerIsNoForwarder();
        noIdLeft();
        due.end();
    }

    // "1. If r = NIL, the answer is NIL": no forwarder is made, and a full arena is no hindrance.
    private static void nil() {
        int[][] over = {{0, 2, 4}, {1, 1, 2}, {1, 2, 5}, {2, 1, 4}, {2, 2, 2}};
        for (int[] o : over) {
            CapMembrane c = Scene.idle(13);
            Due.fillTo(c, 13);
            due.is("domain " + o[0] + " SET0 of NIL", Scene.step(c, o[0], SET0, o[1], 3), 1);
            due.is("slot(" + o[2] + ", 0)", c.slot(o[2], 0), -1);
            c.give(o[0], 3, Scene.BOX[o[0]]);
            due.is("domain " + o[0] + " GET0 of NIL", Scene.step(c, o[0], GET0, 3, o[1]), 1);
            due.is("reg(" + o[0] + ", 3)", c.reg(o[0], 3), -1);
            due.is("count", Due.count(c), 13);
        }
    }

    // "2. If r is a FORWARDER homed in a whose link is homed in b, the answer is link(r)": also in a
    // full arena
    private static void unwrap() {
        CapMembrane c = Scene.idle(13);
        Due.fillTo(c, 13);
        due.is("guest: SET0 of its forwarder 7", Scene.step(c, 1, SET0, 1, 1), 1);
        due.is("slot(2, 0)", c.slot(2, 0), 2);
        due.is("host: SET0 of its forwarder 6", Scene.step(c, 0, SET0, 2, 2), 1);
        due.is("slot(4, 0)", c.slot(4, 0), 4);
        due.is("domain 2 over 1 into 0: SET0 of its forwarder 10", Scene.step(c, 2, SET0, 2, 2), 1);
        due.is("slot(2, 0)", c.slot(2, 0), 2);
        due.is("host: SET0 of 6 into its own box", Scene.step(c, 0, SET0, 0, 2), 1);
        due.is("slot(2, 0)", c.slot(2, 0), 6);
        due.is("guest: GET0 over 1", Scene.step(c, 1, GET0, 3, 1), 1);
        due.is("reg(1, 3) is unwrapped", c.reg(1, 3), 4);
        due.is("domain 2: GET0 over 2 and 1", Scene.step(c, 2, GET0, 3, 2), 1);
        due.is("reg(2, 3) is unwrapped, then the forwarder that stands", c.reg(2, 3), 9);
        due.is("count", Due.count(c), 13);
    }

    // "whose link is homed in b": a forwarder of another membrane is wrapped, not unwrapped.
    private static void unwrapOnlyThatMembranes() {
        CapMembrane c = Scene.idle(32);
        int n = Due.count(c);
        due.is("guest: SET0 of forwarder 8, which leads to domain 2", Scene.step(c, 1, SET0, 1, 2), 1);
        due.is("slot(2, 0)", c.slot(2, 0), n);
        due.same("its forwarder", " o" + n + ":3,0,8,0[-1 -1 -1 -1 ]", Due.object(c, n));
        due.is("guest: SET0 of forwarder 7, which leads to the host", Scene.step(c, 1, SET0, 2, 1), 1);
        due.is("slot(5, 0)", c.slot(5, 0), 10);
        due.is("give(2, 3, 7)", c.give(2, 3, 7), true);
        due.is("reg(2, 3)", c.reg(2, 3), 10);
        due.is("count", Due.count(c), n + 1);
    }

    // "3. If a FORWARDER f homed in b with link(f) = r exists, the answer is f (there is at most
    // one)": also in a full arena
    private static void forwarderThatStands() {
        CapMembrane c = Scene.idle(13);
        Due.fillTo(c, 13);
        for (int i = 0; i < 3; i++) {
            due.is("host: SET0 of 2 into 4", Scene.step(c, 0, SET0, 2, 0), 1);
            due.is("slot(4, 0)", c.slot(4, 0), 7);
            due.is("guest: SET0 of 4 into 2", Scene.step(c, 1, SET0, 1, 0), 1);
            due.is("slot(2, 0)", c.slot(2, 0), 6);
            due.is("host: SET0 of 2 into 2", Scene.step(c, 0, SET0, 0, 0), 1);
            due.is("guest: GET0 of it", Scene.step(c, 1, GET0, 3, 1), 1);
            due.is("reg(1, 3)", c.reg(1, 3), 7);
            due.is("domain 2: GET0 of it", Scene.step(c, 2, GET0, 3, 2), 1);
            due.is("reg(2, 3)", c.reg(2, 3), 10);
            due.is("give(1, 3, 2)", c.give(1, 3, 2), true);
            due.is("reg(1, 3)", c.reg(1, 3), 7);
        }
        due.is("count", Due.count(c), 13);
    }

    // "homed in b": each neighbour has a forwarder of its own, whichever was made first.
    private static void forwarderOfThatDomain() {
        int[][] orders = {{0, 2, 3}, {0, 3, 2}, {2, 0, 3}, {2, 3, 0}, {3, 0, 2}, {3, 2, 0}};
        for (int[] order : orders) {
            CapMembrane c = new CapMembrane(16, 16);
            c.newDomain(0);
            c.newDomain(1);
            c.newDomain(1);
            c.newBox(1);
            for (int round = 0; round < 2; round++) {
                for (int i = 0; i < 3; i++) {
                    String call = "give(" + order[i] + ", " + round + ", 3)";
                    due.is(call, c.give(order[i], round, 3), true);
                    due.is(call + ": the register", c.reg(order[i], round), 4 + i);
                    due.same(call + ": its forwarder", " o" + (4 + i) + ":3," + order[i] + ",3,0[-1 -1 -1 -1 ]",
                        Due.object(c, 4 + i));
                }
            }
            due.is("count", Due.count(c), 7);
        }
    }

    // "4. If count < N, a new FORWARDER is made with id count, home b and link r; count rises by 1"
    private static void newForwarder() {
        CapMembrane c = Scene.idle(16);
        int n = Due.count(c);
        Due.fillTo(c, 15);
        c.give(0, 1, n);
        due.is("host: SET0 of a box that has no forwarder", Scene.step(c, 0, SET0, 2, 1), 1);
        due.is("slot(4, 0)", c.slot(4, 0), 15);
        due.same("with the last id", " o15:3,1," + n + ",0[-1 -1 -1 -1 ]", Due.object(c, 15));
        due.is("count", Due.count(c), 16);
        CapMembrane r = Scene.idle(16);
        Due.fillTo(r, 15);
        r.give(0, 1, n);
        Scene.step(r, 0, SET0, 0, 1);
        due.is("guest: GET0 of a box that has no forwarder", Scene.step(r, 1, GET0, 3, 1), 1);
        due.is("reg(1, 3)", r.reg(1, 3), 15);
        due.same("with the last id", " o15:3,1," + n + ",0[-1 -1 -1 -1 ]", Due.object(r, 15));
        due.is("count", Due.count(r), 16);
    }

    // "3. If a FORWARDER f ...": a revoker of the same home and link is none, nor does it unwrap.
    private static void revokerIsNoForwarder() {
        CapMembrane c = new CapMembrane(16, 16);
        c.newDomain(0);
        c.newBox(1);
        c.newBox(0);
        c.give(0, 0, 2);
        c.give(1, 0, 2);
        c.give(1, 1, 1);
        due.is("guest: SET0 of box 1; revoker 0 has home 0 and link 1", Scene.step(c, 1, SET0, 0, 1), 1);
        due.is("slot(2, 0)", c.slot(2, 0), 4);
        due.same("its forwarder", " o4:3,0,1,0[-1 -1 -1 -1 ]", Due.object(c, 4));
        c.give(0, 1, 0);
        c.give(0, 2, 1);
        due.is("host: SET0 of the revoker into box 1", Scene.step(c, 0, SET0, 2, 1), 1);
        due.is("slot(1, 0): link 1 is homed in 1, but it is no target", c.slot(1, 0), 5);
        due.same("its forwarder", " o5:3,1,0,0[-1 -1 -1 -1 ]", Due.object(c, 5));
    }

    // "5. Otherwise CARRY fails with FULL, and nothing is made."
    private static void noIdLeft() {
        CapMembrane c = Scene.idle(16);
        int box = Due.count(c);
        Due.fillTo(c, 16);
        c.give(0, 1, box);
        String before = Due.objects(c, 33) + Due.registers(c);
        due.is("give(1, 3, box)", c.give(1, 3, box), false);
        due.same("give in a full arena", before, Due.objects(c, 33) + Due.registers(c));
        due.is("host: SET0 of a box that has no forwarder", Scene.step(c, 0, SET0, 2, 1), 0);
        due.is("status(0)", c.status(0), CapMembrane.ST_FULL);
        due.is("count", Due.count(c), 16);
        due.is("kind(16)", c.kind(16), CapMembrane.KIND_NONE);
        CapMembrane r = Scene.idle(16);
        Due.fillTo(r, 16);
        r.give(0, 1, box);
        Scene.step(r, 0, SET0, 0, 1);
        due.is("guest: GET0 of a box that has no forwarder", Scene.step(r, 1, GET0, 0, 1), 0);
        due.is("status(1)", r.status(1), CapMembrane.ST_FULL);
        due.is("reg(1, 0) is unchanged", r.reg(1, 0), 4);
        due.is("count", Due.count(r), 16);
    }
}
