import java.util.List;
import java.util.function.Predicate;
import java.util.function.Supplier;
import java.util.function.ToIntFunction;

/** Counts and prints the answers that are not the ones that are due. */
final class Due {
    private final String test;
    private int wrong = 0;

    Due(String test) {
        this.test = test;
    }

    void is(String call, long got, long want) {
        if (got != want) {
            tell(call + " answered " + got + ", due is " + want);
        }
    }

    void is(String call, boolean got, boolean want) {
        if (got != want) {
            tell(call + " answered " + got + ", due is " + want);
        }
    }

    void same(String call, String before, String after) {
        if (!before.equals(after)) {
            tell(call + " changed the state\n  from " + before + "\n  to   " + after);
        }
    }

    /**
     * A call that must change nothing: its answer; that no getter answers otherwise after it; and
     * that all later calls answer as they do on a twin that never had this call.
     */
    void idle(String call, Supplier<CapMembrane> scene, ToIntFunction<CapMembrane> calling, int want) {
        CapMembrane c = scene.get();
        String before = look(c);
        is(call, calling.applyAsInt(c), want);
        same(call, before, look(c));
        List<String> due = Scene.later(scene.get());
        List<String> got = Scene.later(c);
        for (int i = 0; i < due.size(); i++) {
            if (!due.get(i).equals(got.get(i))) {
                tell(call + " changed what comes later\n  from " + due.get(i) + "\n  to   " + got.get(i));
                return;
            }
        }
    }

    /** The same for a call that answers a boolean. */
    void idleIf(String call, Supplier<CapMembrane> scene, Predicate<CapMembrane> calling, boolean want) {
        idle(call, scene, c -> calling.test(c) ? 1 : 0, want ? 1 : 0);
    }

    void tell(String fault) {
        wrong++;
        System.out.println(test + ": " + fault);
    }

    int wrong() {
        return wrong;
    }

    void end() {
        System.out.println(wrong == 0 ? "all answers are as due" : wrong + " answers are not as due");
        if (wrong != 0) {
            System.exit(1);
        }
    }

    /** All that the getters tell of one object, some rows out of range among it. */
    static String look(CapMembrane c) {
        StringBuilder s = new StringBuilder();
        for (int d = -1; d <= CapMembrane.MAX_DOMAINS; d++) {
            s.append(domain(c, d)).append('[').append(registers(c, d)).append(']');
        }
        for (int o = -1; o <= 32; o++) {
            s.append(object(c, o));
        }
        return s.toString();
    }

    /** What the getters tell of domain d but for its registers. */
    static String domain(CapMembrane c, int d) {
        return " d" + d + ':' + c.parent(d) + ',' + c.status(d) + ',' + c.pc(d) + ',' + c.revoked(d);
    }

    static String registers(CapMembrane c, int d) {
        StringBuilder s = new StringBuilder();
        for (int r = -1; r <= CapMembrane.REGS; r++) {
            s.append(c.reg(d, r)).append(' ');
        }
        return s.toString();
    }

    static String object(CapMembrane c, int o) {
        StringBuilder s = new StringBuilder();
        s.append(" o").append(o).append(':').append(c.kind(o)).append(',').append(c.home(o));
        s.append(',').append(c.link(o)).append(',').append(c.hits(o)).append('[');
        for (int k = -1; k <= 2; k++) {
            s.append(c.slot(o, k)).append(' ');
        }
        return s.append(']').toString();
    }

    /** All registers of all domains. */
    static String registers(CapMembrane c) {
        StringBuilder s = new StringBuilder();
        for (int d = 0; d < CapMembrane.MAX_DOMAINS; d++) {
            s.append(" d").append(d).append('[').append(registers(c, d)).append(']');
        }
        return s.toString();
    }

    /** The first n objects. */
    static String objects(CapMembrane c, int n) {
        StringBuilder s = new StringBuilder();
        for (int o = 0; o < n; o++) {
            s.append(object(c, o));
        }
        return s.toString();
    }

    /** The first n domains, but for their registers. */
    static String domains(CapMembrane c, int n) {
        StringBuilder s = new StringBuilder();
        for (int d = 0; d < n; d++) {
            s.append(domain(c, d));
        }
        return s.toString();
    }

    /** The number of objects, as the getters tell it. */
    static int count(CapMembrane c) {
        int n = 0;
        while (n < 64 && c.kind(n) != CapMembrane.KIND_NONE) {
            n++;
        }
        return n;
    }

    /** Makes boxes in domain 0 until there are n objects in all. */
    static void fillTo(CapMembrane c, int n) {
        for (int i = 0; i < 64 && c.kind(n - 1) == CapMembrane.KIND_NONE; i++) {
            c.newBox(0);
        }
    }
}
