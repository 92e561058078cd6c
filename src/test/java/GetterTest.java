/** Promises 8 to 17: what the getters answer, also out of range, and that they change nothing. */
public final class GetterTest {
    private static final Due due = new Due("GetterTest");

    public static void main(String[] args) {
        CapMembrane c = scene();
        inRange(c);
        int[] noDomain = {-1, 2, 3, 4, Integer.MIN_VALUE, Integer.MAX_VALUE};
        for (int d : noDomain) {
            due.is("reg(" + d + ", 0)", c.reg(d, 0), -1);
            due.is("status(" + d + ")", c.status(d), -1);
            due.is("pc(" + d + ")", c.pc(d), -1);
            due.is("parent(" + d + ")", c.parent(d), -2);
            due.is("revoked(" + d + ")", c.revoked(d), false);
        }
        int[] noRegister = {-1, 4, Integer.MIN_VALUE, Integer.MAX_VALUE};
        for (int r : noRegister) {
            due.is("reg(0, " + r + ")", c.reg(0, r), -1);
            due.is("reg(1, " + r + ")", c.reg(1, r), -1);
        }
        int[] noObject = {-1, 6, 7, 31, 32, 1000, Integer.MIN_VALUE, Integer.MAX_VALUE};
        for (int o : noObject) {
            due.is("kind(" + o + ")", c.kind(o), CapMembrane.KIND_NONE);
            due.is("home(" + o + ")", c.home(o), -1);
            due.is("link(" + o + ")", c.link(o), -1);
            due.is("hits(" + o + ")", c.hits(o), 0);
            due.is("slot(" + o + ", 0)", c.slot(o, 0), -1);
            due.is("slot(" + o + ", 1)", c.slot(o, 1), -1);
        }
        int[] noSlot = {-1, 2, 3, Integer.MIN_VALUE, Integer.MAX_VALUE};
        for (int k : noSlot) {
            due.is("slot(1, " + k + ")", c.slot(1, k), -1);
            due.is("slot(2, " + k + ")", c.slot(2, k), -1);
        }
        String before = Due.look(c);
        due.same("looking", before, Due.look(c));
        due.is("newBox(0) after all the looking", c.newBox(0), 6);
        due.end();
    }

    // Revoker 0, host boxes 1 and 2, forwarder 3 in domain 1 for 1, guest box 4, forwarder 5 in 0 for 4.
    private static CapMembrane scene() {
        CapMembrane c = new CapMembrane(8, 8);
        c.newDomain(0);
        c.newBox(0);
        c.newBox(0);
        c.give(1, 3, 1);
        c.emit(1, CapMembrane.OP_NEW, 0, 0);
        c.emit(1, CapMembrane.OP_SET1, 3, 0);
        c.emit(1, CapMembrane.OP_POKE, 2, 0);
        c.run(1, 9);
        c.give(0, 0, 1);
        c.give(0, 1, 2);
        c.emit(0, CapMembrane.OP_SET0, 0, 1);
        c.emit(0, CapMembrane.OP_SET0, 1, 0);
        c.run(0, 9);
        c.revoke(1);
        return c;
    }

    private static void inRange(CapMembrane c) {
        int[] kinds = {2, 1, 1, 3, 1, 3};
        int[] homes = {0, 0, 0, 1, 1, 0};
        int[] links = {1, -1, -1, 1, -1, 4};
        int[] hits = {0, 2, 1, 1, 0, 0};
        int[] slot0 = {-1, 2, 1, -1, -1, -1};
        int[] slot1 = {-1, 5, -1, -1, -1, -1};
        for (int o = 0; o < 6; o++) {
            due.is("kind(" + o + ")", c.kind(o), kinds[o]);
            due.is("home(" + o + ")", c.home(o), homes[o]);
            due.is("link(" + o + ")", c.link(o), links[o]);
            due.is("hits(" + o + ")", c.hits(o), hits[o]);
            due.is("slot(" + o + ", 0)", c.slot(o, 0), slot0[o]);
            due.is("slot(" + o + ", 1)", c.slot(o, 1), slot1[o]);
        }
        int[][] regs = {{1, 2, -1, -1}, {4, -1, -1, 3}};
        for (int d = 0; d < 2; d++) {
            for (int r = 0; r < 4; r++) {
                due.is("reg(" + d + ", " + r + ")", c.reg(d, r), regs[d][r]);
            }
            due.is("pc(" + d + ")", c.pc(d), 2);
            due.is("status(" + d + ")", c.status(d), d == 0 ? CapMembrane.ST_READY : CapMembrane.ST_NULL);
            due.is("parent(" + d + ")", c.parent(d), d - 1);
            due.is("revoked(" + d + ")", c.revoked(d), d == 1);
        }
    }
}
