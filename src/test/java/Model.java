import java.util.ArrayList;
import java.util.List;

/**
 * The document once more, written another way than the class (records, recursion, exceptions),
 * so that a slip in one of the two shows as a difference.
 */
final class Model {
    static final class Thing {
        int kind;
        int home;
        int link = -1;
        int hits;
        int[] slots = {-1, -1};
    }

    static final class Domain {
        int parent;
        boolean revoked;
        int status;
        int pc;
        int[] regs = {-1, -1, -1, -1};
        List<int[]> program = new ArrayList<>();
    }

    static final class Fault extends Exception {
        private static final long serialVersionUID = 1L;
        final int status;

        Fault(int status) {
            super(null, null, false, false);
            this.status = status;
        }
    }

    final int n;
    final int p;
    final List<Thing> things = new ArrayList<>();
    final List<Domain> domains = new ArrayList<>();
    /** How often each kind of event came up, so that a test can tell that its runs reach them. */
    final int[] seen = new int[Event.values().length];

    enum Event {
        NULL, REVOKED_IN, REVOKED_IN_LATER, REVOKED_BACK, FULL_NEW, FULL_ARG, FULL_ARG_LATER,
        FULL_RESULT, FULL_RESULT_LATER, UNWRAP, REUSE, MAKE, THREE_HOPS, REVOKER, GIVE_REVOKED,
        GIVE_FULL, GIVE_FAR
    }

    Model(int objects, int progLen) {
        n = Math.max(8, Math.min(32, objects));
        p = Math.max(8, Math.min(32, progLen));
        Domain host = new Domain();
        host.parent = -1;
        domains.add(host);
    }

    private void saw(Event e) {
        seen[e.ordinal()]++;
    }

    private boolean isDomain(int d) {
        return 0 <= d && d < domains.size();
    }

    private int make(int kind, int home, int link) throws Fault {
        if (things.size() == n) {
            throw new Fault(3);
        }
        Thing t = new Thing();
        t.kind = kind;
        t.home = home;
        t.link = link;
        things.add(t);
        return things.size() - 1;
    }

    int newDomain(int parent) {
        if (!isDomain(parent) || domains.size() == 4) {
            return -1;
        }
        try {
            make(2, parent, domains.size());
        } catch (Fault f) {
            return -1;
        }
        Domain d = new Domain();
        d.parent = parent;
        domains.add(d);
        return domains.size() - 1;
    }

    int newBox(int d) {
        if (!isDomain(d)) {
            return -1;
        }
        try {
            return make(1, d, -1);
        } catch (Fault f) {
            return -1;
        }
    }

    boolean give(int d, int r, int obj) {
        if (!isDomain(d) || r < 0 || r > 3 || obj < -1 || obj >= things.size()) {
            return false;
        }
        int[] regs = domains.get(d).regs;
        if (obj == -1 || things.get(obj).home == d) {
            regs[r] = obj;
            return true;
        }
        int h = things.get(obj).home;
        boolean down = d >= 1 && h == domains.get(d).parent;
        boolean up = h >= 1 && domains.get(h).parent == d;
        if (!down && !up) {
            saw(Event.GIVE_FAR);
            return false;
        }
        if (domains.get(down ? d : h).revoked) {
            saw(Event.GIVE_REVOKED);
            return false;
        }
        try {
            regs[r] = carry(obj, h, d);
            return true;
        } catch (Fault f) {
            saw(Event.GIVE_FULL);
            return false;
        }
    }

    boolean emit(int d, int op, int x, int y) {
        boolean fits = isDomain(d) && 0 <= op && op <= 7 && 0 <= x && x <= 3 && 0 <= y && y <= 3;
        return fits && domains.get(d).program.size() < p && domains.get(d).program.add(new int[] {op, x, y});
    }

    int run(int d, int steps) {
        if (!isDomain(d) || domains.get(d).status != 0) {
            return -1;
        }
        Domain dom = domains.get(d);
        int done = 0;
        try {
            while (done < steps && dom.pc < dom.program.size()) {
                step(d, dom.program.get(dom.pc));
                dom.pc++;
                done++;
            }
        } catch (Fault f) {
            dom.status = f.status;
        }
        return done;
    }

    boolean revoke(int m) {
        if (m < 1 || !isDomain(m) || domains.get(m).revoked) {
            return false;
        }
        domains.get(m).revoked = true;
        return true;
    }

    private void step(int d, int[] ins) throws Fault {
        int[] regs = domains.get(d).regs;
        int x = ins[1];
        int y = ins[2];
        switch (ins[0]) {
            case 0:
                if (things.size() == n) {
                    saw(Event.FULL_NEW);
                }
                regs[x] = make(1, d, -1);
                break;
            case 1:
                regs[x] = regs[y];
                break;
            case 2:
            case 3:
                regs[x] = begin(d, regs[y], ins[0], -1);
                break;
            case 4:
            case 5:
                begin(d, regs[x], ins[0], regs[y]);
                break;
            case 6:
                begin(d, regs[x], ins[0], -1);
                break;
            default:
                regs[x] = -1;
                break;
        }
    }

    private int begin(int d, int r, int op, int arg) throws Fault {
        if (r == -1) {
            saw(Event.NULL);
            throw new Fault(1);
        }
        return invoke(d, r, op, arg, 0);
    }

    private int invoke(int dom, int r, int op, int arg, int depth) throws Fault {
        Thing t = things.get(r);
        if (t.kind != 3) {
            t.hits++;
            return reach(t, op, arg);
        }
        int e = things.get(t.link).home;
        Domain membrane = domains.get(Math.max(t.home, e));
        if (membrane.revoked) {
            saw(depth == 0 ? Event.REVOKED_IN : Event.REVOKED_IN_LATER);
            throw new Fault(2);
        }
        if (depth == 2) {
            saw(Event.THREE_HOPS);
        }
        t.hits++;
        int inner = carryOr(arg, dom, e, depth == 0 ? Event.FULL_ARG : Event.FULL_ARG_LATER);
        int res = invoke(e, t.link, op, inner, depth + 1);
        if (membrane.revoked) {
            saw(Event.REVOKED_BACK);
            throw new Fault(2);
        }
        boolean last = things.get(t.link).kind != 3;
        return carryOr(res, e, dom, last ? Event.FULL_RESULT : Event.FULL_RESULT_LATER);
    }

    private int reach(Thing t, int op, int arg) {
        if (t.kind == 2) {
            saw(Event.REVOKER);
            domains.get(t.link).revoked = true;
            return -1;
        }
        if (op == 2 || op == 3) {
            return t.slots[op - 2];
        }
        if (op == 4 || op == 5) {
            t.slots[op - 4] = arg;
        }
        return -1;
    }

    private int carryOr(int r, int a, int b, Event full) throws Fault {
        try {
            return carry(r, a, b);
        } catch (Fault f) {
            saw(full);
            throw f;
        }
    }

    private int carry(int r, int a, int b) throws Fault {
        if (r == -1) {
            return -1;
        }
        Thing t = things.get(r);
        if (t.kind == 3 && t.home == a && things.get(t.link).home == b) {
            saw(Event.UNWRAP);
            return t.link;
        }
        for (int i = 0; i < things.size(); i++) {
            Thing f = things.get(i);
            if (f.kind == 3 && f.home == b && f.link == r) {
                saw(Event.REUSE);
                return i;
            }
        }
        int made = make(3, b, r);
        saw(Event.MAKE);
        return made;
    }

    /** The same words as Due.look, for the same state. */
    String look() {
        StringBuilder s = new StringBuilder();
        for (int d = -1; d <= 4; d++) {
            Domain o = isDomain(d) ? domains.get(d) : null;
            s.append(" d").append(d).append(':').append(o == null ? -2 : o.parent);
            s.append(',').append(o == null ? -1 : o.status).append(',').append(o == null ? -1 : o.pc);
            s.append(',').append(o != null && o.revoked).append('[');
            for (int r = -1; r <= 4; r++) {
                s.append(o == null || r < 0 || r > 3 ? -1 : o.regs[r]).append(' ');
            }
            s.append(']');
        }
        for (int i = -1; i <= 32; i++) {
            Thing t = 0 <= i && i < things.size() ? things.get(i) : null;
            s.append(" o").append(i).append(':').append(t == null ? 0 : t.kind);
            s.append(',').append(t == null ? -1 : t.home).append(',').append(t == null ? -1 : t.link);
            s.append(',').append(t == null ? 0 : t.hits).append('[');
            for (int k = -1; k <= 2; k++) {
                s.append(t == null || t.kind != 1 || k < 0 || k > 1 ? -1 : t.slots[k]).append(' ');
            }
            s.append(']');
        }
        return s.toString();
    }
}
