import java.util.function.Supplier;

/** The boundary cases of promise 4; above each test stands the document's sentence. */
public final class EdgeGiveTest {
    private static final Due due = new Due("EdgeGiveTest");

    public static void main(String[] args) {
        giveWithoutDomainOrRegister();
        giveOfNil();
        giveOfMissingObject();
        giveOfOwnObject();
        giveAcrossRevoked();
        giveAcrossOtherRevoked();
        giveInFullArena();
        giveWithLastId();
        giveInFullArenaThatMakesNothing();
        giveFromFarDomain();
        giveChangesNothingElse();
        due.end();
    }

    private static void refusedGive(String when, Supplier<CapMembrane> scene, int d, int r, int obj) {
        String call = when + " give(" + d + ", " + r + ", " + obj + ")";
        due.idleIf(call, scene, c -> c.give(d, r, obj), false);
    }

    // "d must exist and r must be in 0..3, else the answer is false." This comes before the rule
    // for NIL. "A call answering false changes nothing."
    private static void giveWithoutDomainOrRegister() {
        for (int d : Scene.andFar(-1, 3, 4)) {
            for (int obj = -1; obj <= 6; obj += 3) {
                refusedGive("busy", Scene::busy, d, 0, obj);
            }
            refusedGive("busy", Scene::busy, d, 4, -1);
        }
        refusedGive("fresh", () -> new CapMembrane(8, 8), 1, 0, -1);
        refusedGive("four domains", Scene::busyAllDomains, 4, 0, -1);
        for (int r : Scene.andFar(-1, 4, 5)) {
            for (int d = 0; d <= 2; d++) {
                refusedGive("busy", Scene::busy, d, r, -1);
                refusedGive("busy", Scene::busy, d, r, Scene.BOX[d]);
            }
            refusedGive("busy", Scene::busy, 1, r, 3);
        }
    }

    // "If obj = NIL: R[r] = NIL, answer true."
    private static void giveOfNil() {
        for (int d = 0; d <= 2; d++) {
            for (int r = 0; r <= 3; r++) {
                for (int status : Scene.FAULTS) {
                    CapMembrane c = Scene.faulted(d, status);
                    c.give(d, r, Scene.BOX[d]);
                    giveOwn(c, d, r, -1);
                    giveOwn(c, d, r, -1);
                }
            }
        }
    }

    // "obj must be in 0..count-1, else the answer is false. A call answering false changes nothing."
    private static void giveOfMissingObject() {
        for (int obj : Scene.andFar(11, 12, 15, 16, 31, 32, 33)) {
            for (int d = 0; d <= 2; d++) {
                refusedGive("busy", Scene::busy, d, d, obj);
            }
        }
        for (int obj : Scene.andFar(16, 17, 31, 32)) {
            refusedGive("full", Scene::busyFull, 0, 0, obj);
        }
        for (int obj : Scene.andFar(0, 1, 7, 8)) {
            refusedGive("fresh", () -> new CapMembrane(8, 8), 0, 0, obj);
        }
    }

    // "If home(obj) = d: R[r] = obj, answer true": of every kind, with every membrane revoked and
    // in a full arena too.
    private static void giveOfOwnObject() {
        CapMembrane c = Scene.busyFull();
        c.revoke(1);
        c.revoke(2);
        for (int obj = 0; obj < 16; obj++) {
            for (int r = 0; r <= 3; r++) {
                giveOwn(c, c.home(obj), r, obj);
            }
        }
    }

    // A give that is due to load obj itself and to change no more than R[r] of d.
    private static void giveOwn(CapMembrane c, int d, int r, int obj) {
        String call = "give(" + d + ", " + r + ", " + obj + ")";
        int[] want = new int[16];
        for (int i = 0; i < 16; i++) {
            want[i] = i == d * 4 + r ? obj : c.reg(i / 4, i % 4);
        }
        String before = Due.domains(c, 4) + Due.objects(c, 33);
        due.is(call, c.give(d, r, obj), true);
        due.same(call, before, Due.domains(c, 4) + Due.objects(c, 33));
        for (int i = 0; i < 16; i++) {
            due.is(call + ", then reg(" + i / 4 + ", " + i % 4 + ")", c.reg(i / 4, i % 4), want[i]);
        }
    }

    // "if m is revoked, the answer is false": whether CARRY would make a forwarder, find one or
    // unwrap one, downward and upward. "A call answering false changes nothing."
    private static void giveAcrossRevoked() {
        int[][] over1 = {{1, 3}, {1, 2}, {1, 6}, {1, 0}, {0, 8}, {0, 4}, {0, 7}, {0, 1}};
        for (int[] g : over1) {
            refusedGive("1 is revoked,", () -> Scene.busyRevoked(1), g[0], 3, g[1]);
            due.is("busy give(" + g[0] + ", 3, " + g[1] + ")", Scene.busy().give(g[0], 3, g[1]), true);
        }
        int[][] over2 = {{2, 1}, {2, 4}, {2, 7}, {2, 8}, {1, 5}, {1, 9}, {1, 10}};
        for (int[] g : over2) {
            refusedGive("2 is revoked,", () -> Scene.busyRevoked(2), g[0], 3, g[1]);
            due.is("busy give(" + g[0] + ", 3, " + g[1] + ")", Scene.busy().give(g[0], 3, g[1]), true);
        }
    }

    // "let m = max(d, home(obj)); if m is revoked": no other membrane counts.
    private static void giveAcrossOtherRevoked() {
        CapMembrane c = Scene.busyRevoked(1);
        due.is("1 is revoked, give(2, 3, 8) over 2", c.give(2, 3, 8), true);
        due.is("reg(2, 3) is unwrapped", c.reg(2, 3), 5);
        due.is("1 is revoked, give(2, 3, 1) over 2", c.give(2, 3, 1), true);
        due.is("link(reg(2, 3))", c.link(c.reg(2, 3)), 1);
        due.is("1 is revoked, give(1, 3, 5) over 2", c.give(1, 3, 5), true);
        due.is("reg(1, 3)", c.reg(1, 3), 8);
        CapMembrane n = Scene.busyRevoked(2);
        due.is("2 is revoked, give(1, 3, 3) over 1", n.give(1, 3, 3), true);
        due.is("link(reg(1, 3))", n.link(n.reg(1, 3)), 3);
        due.is("2 is revoked, give(0, 3, 8) over 1", n.give(0, 3, 8), true);
        due.is("link(reg(0, 3))", n.link(n.reg(0, 3)), 8);
    }

    // "if CARRY(obj, home(obj), d) fails, the answer is false. A call answering false changes
    // nothing."
    private static void giveInFullArena() {
        int[][] makes = {{1, 3}, {1, 0}, {0, 8}, {0, 1}, {2, 1}, {1, 11}};
        for (int[] g : makes) {
            for (int r = 0; r <= 3; r++) {
                refusedGive("full", Scene::busyFull, g[0], r, g[1]);
            }
        }
    }

    // "CARRY may have made one new forwarder", and the last id will do.
    private static void giveWithLastId() {
        int[][] makes = {{1, 3}, {1, 0}, {0, 8}, {0, 1}, {2, 1}};
        for (int[] g : makes) {
            CapMembrane c = Scene.busy();
            Due.fillTo(c, 15);
            due.is("one id left, give(" + g[0] + ", 2, " + g[1] + ")", c.give(g[0], 2, g[1]), true);
            due.is("reg(" + g[0] + ", 2)", c.reg(g[0], 2), 15);
            due.same("the forwarder", " o15:3," + g[0] + "," + g[1] + ",0[-1 -1 -1 -1 ]", Due.object(c, 15));
            due.is("count", Due.count(c), 16);
        }
    }

    // In a full arena CARRY still answers by its rules 1 to 3.
    private static void giveInFullArenaThatMakesNothing() {
        int[][] stands = {{1, 2, 7}, {1, 6, 4}, {0, 4, 6}, {0, 7, 2}, {2, 4, 9}, {2, 7, 10}, {2, 8, 5}, {1, 5, 8}};
        for (int[] g : stands) {
            for (int r = 0; r <= 3; r++) {
                CapMembrane c = Scene.busyFull();
                String before = Due.domains(c, 4) + Due.objects(c, 33);
                due.is("full give(" + g[0] + ", " + r + ", " + g[1] + ")", c.give(g[0], r, g[1]), true);
                due.is("reg(" + g[0] + ", " + r + ")", c.reg(g[0], r), g[2]);
                due.same("give", before, Due.domains(c, 4) + Due.objects(c, 33));
            }
        }
    }

    // "In every other case, the answer is false": a grandparent, a grandchild, a sibling. "A call
    // answering false changes nothing."
    private static void giveFromFarDomain() {
        int[][] far = {{0, 5}, {0, 9}, {0, 10}, {2, 0}, {2, 2}, {2, 6}};
        for (int[] g : far) {
            refusedGive("busy", Scene::busy, g[0], 0, g[1]);
            refusedGive("full", Scene::busyFull, g[0], 0, g[1]);
            refusedGive("1 is revoked,", () -> Scene.busyRevoked(1), g[0], 0, g[1]);
        }
        int[][] sibling = {{3, 1}, {3, 4}, {3, 5}, {3, 7}, {3, 8}, {3, 9}, {3, 10}};
        for (int[] g : sibling) {
            refusedGive("four domains,", Scene::busyAllDomains, g[0], 0, g[1]);
        }
        Supplier<CapMembrane> boxIn3 = () -> {
            CapMembrane c = Scene.busyAllDomains();
            c.newBox(3);
            return c;
        };
        refusedGive("four domains,", boxIn3, 1, 0, 12);
        refusedGive("four domains,", boxIn3, 2, 0, 12);
        due.is("give(0, 0, 12) from the child", boxIn3.get().give(0, 0, 12), true);
    }

    // "This call never changes hits, slots, statuses, pcs, programs or revocations, and changes no
    // register other than R[r] of d."
    private static void giveChangesNothingElse() {
        int[][] makes = {{1, 3}, {1, 0}, {0, 8}, {0, 1}, {2, 1}};
        for (int[] g : makes) {
            for (int r = 0; r <= 3; r++) {
                CapMembrane c = Scene.busy();
                String call = "busy give(" + g[0] + ", " + r + ", " + g[1] + ")";
                int was = c.reg(g[0], r);
                String before = Due.domains(c, 4) + Due.registers(c) + Due.objects(c, 11);
                due.is(call, c.give(g[0], r, g[1]), true);
                due.is("reg(" + g[0] + ", " + r + ")", c.reg(g[0], r), 11);
                due.same("the forwarder", " o11:3," + g[0] + "," + g[1] + ",0[-1 -1 -1 -1 ]",
                    Due.object(c, 11));
                due.is("count", Due.count(c), 12);
                c.give(g[0], r, was);
                due.same(call, before, Due.domains(c, 4) + Due.registers(c) + Due.objects(c, 11));
                due.is(call + ", then the program", c.run(g[0], 99), 2);
            }
        }
    }
}
