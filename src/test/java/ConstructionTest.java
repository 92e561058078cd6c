/** Promise 1. */
public final class ConstructionTest {
    private static final Due due = new Due("ConstructionTest");

    public static void main(String[] args) {
        int[] asked = {Integer.MIN_VALUE, -1, 0, 7, 8, 9, 20, 31, 32, 33, 1000, Integer.MAX_VALUE};
        int[] kept = {8, 8, 8, 8, 8, 9, 20, 31, 32, 32, 32, 32};
        for (int i = 0; i < asked.length; i++) {
            sizes(asked[i], kept[i], 16, 16);
            sizes(16, 16, asked[i], kept[i]);
        }
        sizes(Integer.MIN_VALUE, 8, Integer.MAX_VALUE, 32);
        fresh();
        apart();
        due.end();
    }

    private static void sizes(int objects, int n, int progLen, int p) {
        String name = "new CapMembrane(" + objects + ", " + progLen + ")";
        CapMembrane c = new CapMembrane(objects, progLen);
        for (int i = 0; i < n; i++) {
            due.is(name + " newBox " + i, c.newBox(0), i);
        }
        due.is(name + " newBox past N", c.newBox(0), -1);
        due.is(name + " kind(N-1)", c.kind(n - 1), CapMembrane.KIND_BOX);
        due.is(name + " kind(N)", c.kind(n), CapMembrane.KIND_NONE);
        for (int i = 0; i < p; i++) {
            due.is(name + " emit " + i, c.emit(0, CapMembrane.OP_DROP, 0, 0), true);
        }
        due.is(name + " emit past P", c.emit(0, CapMembrane.OP_DROP, 0, 0), false);
        due.is(name + " run", c.run(0, Integer.MAX_VALUE), p);
        due.is(name + " pc", c.pc(0), p);
    }

    private static void fresh() {
        CapMembrane c = new CapMembrane(16, 16);
        for (int r = 0; r < 4; r++) {
            due.is("reg(0, " + r + ")", c.reg(0, r), -1);
        }
        due.is("pc(0)", c.pc(0), 0);
        due.is("status(0)", c.status(0), CapMembrane.ST_READY);
        due.is("parent(0)", c.parent(0), -1);
        due.is("parent(1)", c.parent(1), -2);
        due.is("kind(0)", c.kind(0), CapMembrane.KIND_NONE);
        for (int m = -1; m <= 4; m++) {
            due.is("revoked(" + m + ")", c.revoked(m), false);
        }
        due.is("revoke(0)", c.revoke(0), false);
        due.is("revoked(0)", c.revoked(0), false);
        due.is("run(0, 5) of an empty program", c.run(0, 5), 0);
    }

    private static void apart() {
        CapMembrane a = new CapMembrane(16, 16);
        CapMembrane b = new CapMembrane(16, 16);
        String before = Due.look(b);
        a.newDomain(0);
        a.newBox(1);
        a.give(1, 2, 1);
        a.revoke(1);
        due.same("calls on another object", before, Due.look(b));
    }
}
