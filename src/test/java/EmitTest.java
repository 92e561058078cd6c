/** Promise 5. */
public final class EmitTest {
    private static final Due due = new Due("EmitTest");

    public static void main(String[] args) {
        wrongInputs();
        everyOp();
        full();
        anyStatus();
        due.end();
    }

    private static void wrongInputs() {
        CapMembrane c = new CapMembrane(16, 16);
        String before = Due.look(c);
        int[][] wrong = {
            {-1, 7, 0, 0}, {1, 7, 0, 0}, {Integer.MIN_VALUE, 7, 0, 0}, {Integer.MAX_VALUE, 7, 0, 0},
            {0, -1, 0, 0}, {0, 8, 0, 0}, {0, Integer.MIN_VALUE, 0, 0}, {0, Integer.MAX_VALUE, 0, 0},
            {0, 7, -1, 0}, {0, 7, 4, 0}, {0, 7, Integer.MIN_VALUE, 0}, {0, 7, Integer.MAX_VALUE, 0},
            {0, 7, 0, -1}, {0, 7, 0, 4}, {0, 7, 0, Integer.MIN_VALUE}, {0, 7, 0, Integer.MAX_VALUE},
            {0, 0, 0, 4}, {0, 6, 0, -1},
        };
        for (int[] w : wrong) {
            due.is("emit(" + w[0] + ", " + w[1] + ", " + w[2] + ", " + w[3] + ")",
                c.emit(w[0], w[1], w[2], w[3]), false);
        }
        due.same("refused emit", before, Due.look(c));
        due.is("run(0, 99) after refused emits", c.run(0, 99), 0);
    }

    private static void everyOp() {
        CapMembrane c = new CapMembrane(16, 32);
        String before = Due.look(c);
        for (int op = 0; op <= 7; op++) {
            due.is("emit(0, " + op + ", 0, 3)", c.emit(0, op, 0, 3), true);
            due.is("emit(0, " + op + ", 3, 0)", c.emit(0, op, 3, 0), true);
        }
        due.same("emit", before, Due.look(c));
    }

    private static void full() {
        CapMembrane c = new CapMembrane(16, 8);
        c.newDomain(0);
        for (int i = 0; i < 8; i++) {
            due.is("emit " + i, c.emit(0, CapMembrane.OP_DROP, 0, 0), true);
        }
        due.is("emit to a full program", c.emit(0, CapMembrane.OP_NEW, 0, 0), false);
        due.is("emit to the other domain", c.emit(1, CapMembrane.OP_NEW, 0, 0), true);
        due.is("run(0, 99)", c.run(0, 99), 8);
        due.is("emit to a full program that has run", c.emit(0, CapMembrane.OP_NEW, 0, 0), false);
        due.is("run(0, 99)", c.run(0, 99), 0);
        due.is("kind(1)", c.kind(1), CapMembrane.KIND_NONE);
        due.is("run(1, 99)", c.run(1, 99), 1);
        due.is("home(1)", c.home(1), 1);
    }

    private static void anyStatus() {
        CapMembrane c = new CapMembrane(16, 8);
        c.emit(0, CapMembrane.OP_POKE, 0, 0);
        due.is("run(0, 1)", c.run(0, 1), 0);
        due.is("status(0)", c.status(0), CapMembrane.ST_NULL);
        String before = Due.look(c);
        for (int i = 1; i < 8; i++) {
            due.is("emit to a faulted domain", c.emit(0, CapMembrane.OP_DROP, 0, 0), true);
        }
        due.is("emit to a faulted, full domain", c.emit(0, CapMembrane.OP_DROP, 0, 0), false);
        due.same("emit to a faulted domain", before, Due.look(c));
        due.is("run(0, 1)", c.run(0, 1), -1);
    }
}
