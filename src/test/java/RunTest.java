/** Promise 6, with the instructions inside one domain. */
public final class RunTest {
    private static final Due due = new Due("RunTest");

    public static void main(String[] args) {
        refused();
        steps();
        localInstructions();
        everyRegister();
        nullFaults();
        newFull();
        programsApart();
        due.end();
    }

    private static void refused() {
        CapMembrane c = new CapMembrane(16, 16);
        c.emit(0, CapMembrane.OP_NEW, 0, 0);
        String before = Due.look(c);
        int[] missing = {-1, 1, 4, Integer.MIN_VALUE, Integer.MAX_VALUE};
        for (int d : missing) {
            due.is("run(" + d + ", 1)", c.run(d, 1), -1);
            due.is("run(" + d + ", 0)", c.run(d, 0), -1);
        }
        int[] none = {0, -1, Integer.MIN_VALUE};
        for (int s : none) {
            due.is("run(0, " + s + ")", c.run(0, s), 0);
        }
        due.same("run without steps", before, Due.look(c));
    }

    private static void steps() {
        CapMembrane c = new CapMembrane(16, 16);
        for (int i = 0; i < 5; i++) {
            c.emit(0, CapMembrane.OP_NEW, i % 4, 0);
        }
        due.is("run(0, 2)", c.run(0, 2), 2);
        due.is("pc(0)", c.pc(0), 2);
        due.is("kind(1)", c.kind(1), CapMembrane.KIND_BOX);
        due.is("kind(2)", c.kind(2), CapMembrane.KIND_NONE);
        due.is("run(0, 1)", c.run(0, 1), 1);
        due.is("reg(0, 2)", c.reg(0, 2), 2);
        due.is("run(0, MAX)", c.run(0, Integer.MAX_VALUE), 2);
        due.is("pc(0)", c.pc(0), 5);
        due.is("status(0) at the end", c.status(0), CapMembrane.ST_READY);
        due.is("run(0, 1) at the end", c.run(0, 1), 0);
        c.emit(0, CapMembrane.OP_DROP, 0, 0);
        due.is("run(0, 9) after one more emit", c.run(0, 9), 1);
        due.is("pc(0)", c.pc(0), 6);
        due.is("reg(0, 0)", c.reg(0, 0), -1);
    }

    private static void localInstructions() {
        CapMembrane c = new CapMembrane(16, 32);
        c.emit(0, CapMembrane.OP_NEW, 0, 3);
        c.emit(0, CapMembrane.OP_NEW, 1, 3);
        c.emit(0, CapMembrane.OP_SET0, 0, 1);
        c.emit(0, CapMembrane.OP_SET1, 0, 0);
        due.is("run", c.run(0, 9), 4);
        due.is("slot(0, 0)", c.slot(0, 0), 1);
        due.is("slot(0, 1)", c.slot(0, 1), 0);
        due.is("hits(0)", c.hits(0), 2);
        due.is("hits(1)", c.hits(1), 0);
        due.is("reg(0, 0) after a SET", c.reg(0, 0), 0);
        c.emit(0, CapMembrane.OP_GET0, 2, 0);
        c.emit(0, CapMembrane.OP_GET1, 3, 0);
        due.is("run", c.run(0, 9), 2);
        due.is("reg(0, 2)", c.reg(0, 2), 1);
        due.is("reg(0, 3)", c.reg(0, 3), 0);
        due.is("hits(0)", c.hits(0), 4);
        c.emit(0, CapMembrane.OP_MOV, 3, 1);
        c.emit(0, CapMembrane.OP_DROP, 1, 2);
        due.is("run", c.run(0, 9), 2);
        due.is("reg(0, 3)", c.reg(0, 3), 1);
        due.is("reg(0, 1)", c.reg(0, 1), -1);
        due.is("reg(0, 2) is not dropped", c.reg(0, 2), 1);
        c.emit(0, CapMembrane.OP_MOV, 3, 1);
        c.emit(0, CapMembrane.OP_SET0, 0, 1);
        c.emit(0, CapMembrane.OP_GET0, 2, 0);
        due.is("run", c.run(0, 9), 3);
        due.is("reg(0, 3) after MOV of NIL", c.reg(0, 3), -1);
        due.is("slot(0, 0) after SET0 of NIL", c.slot(0, 0), -1);
        due.is("slot(0, 1)", c.slot(0, 1), 0);
        due.is("reg(0, 2) after GET0 of NIL", c.reg(0, 2), -1);
        c.emit(0, CapMembrane.OP_POKE, 0, 1);
        due.is("run", c.run(0, 9), 1);
        due.is("hits(0)", c.hits(0), 7);
        due.is("slot(0, 1) after POKE", c.slot(0, 1), 0);
        due.is("reg(0, 0) after POKE", c.reg(0, 0), 0);
        c.emit(0, CapMembrane.OP_GET1, 0, 0);
        c.emit(0, CapMembrane.OP_GET0, 0, 0);
        due.is("run, a GET onto its own register", c.run(0, 9), 2);
        due.is("reg(0, 0)", c.reg(0, 0), -1);
    }

    private static void everyRegister() {
        for (int x = 0; x < 4; x++) {
            for (int y = 0; y < 4; y++) {
                CapMembrane c = new CapMembrane(16, 16);
                for (int r = 0; r < 4; r++) {
                    c.newBox(0);
                    c.give(0, r, r);
                }
                c.emit(0, CapMembrane.OP_SET1, x, y);
                c.emit(0, CapMembrane.OP_MOV, x, y);
                due.is("run", c.run(0, 9), 2);
                due.is("slot(" + x + ", 1)", c.slot(x, 1), y);
                due.is("slot(" + x + ", 0)", c.slot(x, 0), -1);
                for (int r = 0; r < 4; r++) {
                    due.is("MOV " + x + " " + y + ", reg(0, " + r + ")", c.reg(0, r), r == x ? y : r);
                    due.is("SET1 " + x + " " + y + ", hits(" + r + ")", c.hits(r), r == x ? 1 : 0);
                }
            }
        }
    }

    private static void nullFaults() {
        int[] ops = {CapMembrane.OP_GET0, CapMembrane.OP_GET1, CapMembrane.OP_SET0,
            CapMembrane.OP_SET1, CapMembrane.OP_POKE};
        for (int op : ops) {
            boolean get = op == CapMembrane.OP_GET0 || op == CapMembrane.OP_GET1;
            CapMembrane c = new CapMembrane(16, 16);
            c.newBox(0);
            int nilAt = get ? 1 : 0;
            c.give(0, 1 - nilAt, 0);
            c.emit(0, CapMembrane.OP_NEW, 2, 0);
            c.emit(0, op, 0, 1);
            c.emit(0, CapMembrane.OP_NEW, 3, 0);
            due.is("op " + op + " on NIL, run", c.run(0, 9), 1);
            due.is("op " + op + " on NIL, status", c.status(0), CapMembrane.ST_NULL);
            due.is("op " + op + " on NIL, pc", c.pc(0), 1);
            due.is("op " + op + " on NIL, the other register", c.reg(0, 1 - nilAt), 0);
            due.is("op " + op + " on NIL, reg(0, 2)", c.reg(0, 2), 1);
            due.is("op " + op + " on NIL, hits(0)", c.hits(0), 0);
            String before = Due.look(c);
            c.give(0, nilAt, 0);
            c.give(0, nilAt, -1);
            due.is("op " + op + " on NIL, run again", c.run(0, 9), -1);
            due.is("op " + op + " on NIL, run(0, 0) again", c.run(0, 0), -1);
            due.same("run of a faulted domain", before, Due.look(c));
        }
    }

    private static void newFull() {
        CapMembrane c = new CapMembrane(8, 32);
        c.newDomain(0);
        for (int i = 0; i < 8; i++) {
            c.emit(1, CapMembrane.OP_NEW, i % 2, 0);
        }
        due.is("run(1, 99)", c.run(1, 99), 7);
        due.is("status(1)", c.status(1), CapMembrane.ST_FULL);
        due.is("pc(1)", c.pc(1), 7);
        due.is("reg(1, 0)", c.reg(1, 0), 7);
        due.is("reg(1, 1) is unchanged", c.reg(1, 1), 6);
        due.is("home(7)", c.home(7), 1);
        due.is("kind(8)", c.kind(8), CapMembrane.KIND_NONE);
        due.is("status(0)", c.status(0), CapMembrane.ST_READY);
        due.is("run(0, 1)", c.run(0, 1), 0);
    }

    private static void programsApart() {
        CapMembrane c = new CapMembrane(32, 32);
        c.newDomain(0);
        c.newDomain(1);
        c.newDomain(2);
        for (int d = 0; d < 4; d++) {
            for (int i = 0; i < 32; i++) {
                due.is("emit", c.emit(d, i == 31 ? CapMembrane.OP_NEW : CapMembrane.OP_DROP, d, 0), true);
            }
        }
        for (int d = 3; d >= 0; d--) {
            due.is("run(" + d + ", 99)", c.run(d, 99), 32);
            due.is("reg(" + d + ", " + d + ")", c.reg(d, d), 6 - d);
            due.is("home(" + (6 - d) + ")", c.home(6 - d), d);
        }
    }
}
