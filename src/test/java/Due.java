/** Counts and prints the answers that are not the ones that are due. */
final class Due {
    private final String test;
    private int wrong = 0;

    Due(String test) {
        this.test = test;
    }

    void is(String call, long got, long want) {
        if (got != want) {
            tell(call + " answered " + got + ", due is " + want);
        }
    }

    void is(String call, boolean got, boolean want) {
        if (got != want) {
            tell(call + " answered " + got + ", due is " + want);
        }
    }

    void same(String call, String before, String after) {
        if (!before.equals(after)) {
            tell(call + " changed the state\n  from " + before + "\n  to   " + after);
        }
    }

    void tell(String fault) {
        wrong++;
        System.out.println(test + ": " + fault);
    }

    int wrong() {
        return wrong;
    }

    void end() {
        System.out.println(wrong == 0 ? "all answers are as due" : wrong + " answers are not as due");
        if (wrong != 0) {
            System.exit(1);
        }
    }

    /** All that the getters tell of one object, some rows out of range among it. */
    static String look(CapMembrane c) {
        StringBuilder s = new StringBuilder();
        for (int d = -1; d <= CapMembrane.MAX_DOMAINS; d++) {
            s.append(" d").append(d).append(':').append(c.parent(d)).append(',').append(c.status(d));
            s.append(',').append(c.pc(d)).append(',').append(c.revoked(d)).append('[');
            for (int r = -1; r <= CapMembrane.REGS; r++) {
                s.append(c.reg(d, r)).append(' ');
            }
            s.append(']');
        }
        for (int o = -1; o <= 32; o++) {
            s.append(" o").append(o).append(':').append(c.kind(o)).append(',').append(c.home(o));
            s.append(',').append(c.link(o)).append(',').append(c.hits(o)).append('[');
            for (int k = -1; k <= 2; k++) {
                s.append(c.slot(o, k)).append(' ');
            }
            s.append(']');
        }
        return s.toString();
    }

    /** Makes boxes in domain 0 until there are n objects in all. */
    static void fillTo(CapMembrane c, int n) {
        for (int i = 0; i < 64 && c.kind(n - 1) == CapMembrane.KIND_NONE; i++) {
            c.newBox(0);
        }
    }
}
