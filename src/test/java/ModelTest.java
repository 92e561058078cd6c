import java.util.ArrayList;
import java.util.List;

/**
 * Long runs of calls from a fixed seed: every answer and the whole state against Model,
 * and "What always holds" looked at through the getters alone.
 */
public final class ModelTest {
    private static final int RUNS = 3000;
    private static final int CALLS = 120;
    private static final int[] ODD = {-2, -1, 4, 5, 8, 32, 33, Integer.MIN_VALUE, Integer.MAX_VALUE};

    private static final Due due = new Due("ModelTest");
    private static final int[] seen = new int[Model.Event.values().length];
    private static long seed = 20261115L;

    public static void main(String[] args) {
        for (int run = 0; run < RUNS && due.wrong() == 0; run++) {
            oneRun(run);
        }
        for (Model.Event e : Model.Event.values()) {
            due.is("the runs reach " + e, seen[e.ordinal()] > 0, true);
        }
        due.end();
    }

    private static int below(int n) {
        seed = seed * 6364136223846793005L + 1442695040888963407L;
        return (int) ((seed >>> 33) % n);
    }

    /** Mostly a number in 0..n-1, now and then one that is out of place. */
    private static int pick(int n) {
        return below(40) == 0 ? ODD[below(ODD.length)] : below(n);
    }

    /**
     * Mostly an object that may be given to d. Seldom one that leads to a revoker: a single use
     * of it silences a membrane for the rest of the run.
     */
    private static int pickThing(Model m, int d) {
        int obj = pick(Math.max(1, m.things.size()));
        for (int i = 0; i < 20 && 0 <= obj && obj < m.things.size(); i++) {
            int h = m.things.get(obj).home;
            boolean near = d >= 0 && d < m.domains.size()
                && (h == d || m.domains.get(h).parent == d || m.domains.get(d).parent == h);
            if (below(30) == 0 || near && (!leadsToRevoker(m, obj) || below(60) == 0)) {
                break;
            }
            obj = pick(m.things.size());
        }
        return obj;
    }

    private static boolean leadsToRevoker(Model m, int obj) {
        int at = obj;
        while (m.things.get(at).kind == CapMembrane.KIND_FORWARDER) {
            at = m.things.get(at).link;
        }
        return m.things.get(at).kind == CapMembrane.KIND_REVOKER;
    }

    private static void oneRun(int run) {
        int objects = below(3) == 0 ? 8 + below(4) : below(45) - 5;
        int progLen = below(45) - 5;
        CapMembrane c = new CapMembrane(objects, progLen);
        Model m = new Model(objects, progLen);
        List<String> told = new ArrayList<>();
        told.add("new CapMembrane(" + objects + ", " + progLen + ")");
        for (int i = below(4); i > 0; i--) {
            newDomain(c, m, below(m.domains.size()), told);
        }
        for (int i = below(6); i > 0; i--) {
            newBox(c, m, below(m.domains.size()), told);
        }
        for (int i = 0; i < CALLS && due.wrong() == 0; i++) {
            oneCall(c, m, told);
            due.same("the state is not the model's after it: " + told.get(told.size() - 1),
                m.look(), Due.look(c));
            Holds.look(due, c);
        }
        if (due.wrong() != 0) {
            System.out.println("in run " + run + " of these calls:");
            told.forEach(System.out::println);
        }
        for (int e = 0; e < seen.length; e++) {
            seen[e] += m.seen[e];
        }
    }

    private static void oneCall(CapMembrane c, Model m, List<String> told) {
        int d = pick(Math.max(1, m.domains.size()));
        int kind = below(100);
        if (kind < 2) {
            newDomain(c, m, d, told);
        } else if (kind < 5) {
            newBox(c, m, d, told);
        } else if (kind < 36) {
            give(c, m, d, pick(4), below(12) == 0 ? -1 : pickThing(m, d), told);
        } else if (kind < 82) {
            emit(c, m, d, told);
        } else if (kind < 98) {
            run(c, m, d, pick(5), told);
        } else if (kind < 99) {
            fill(c, m, below(3), told);
        } else {
            told.add("revoke(" + d + ")");
            due.is(last(told), c.revoke(d), m.revoke(d));
        }
    }

    private static void newBox(CapMembrane c, Model m, int d, List<String> told) {
        told.add("newBox(" + d + ")");
        due.is(last(told), c.newBox(d), m.newBox(d));
    }

    /** Leaves so few ids free that carries fail half way. */
    private static void fill(CapMembrane c, Model m, int free, List<String> told) {
        for (int i = m.n - m.things.size() - free; i > 0; i--) {
            newBox(c, m, 0, told);
        }
    }

    private static void newDomain(CapMembrane c, Model m, int parent, List<String> told) {
        told.add("newDomain(" + parent + ")");
        due.is(last(told), c.newDomain(parent), m.newDomain(parent));
    }

    private static void give(CapMembrane c, Model m, int d, int r, int obj, List<String> told) {
        told.add("give(" + d + ", " + r + ", " + obj + ")");
        due.is(last(told), c.give(d, r, obj), m.give(d, r, obj));
    }

    private static void emit(CapMembrane c, Model m, int d, List<String> told) {
        int op = below(3) == 0 ? pick(8) : CapMembrane.OP_GET0 + below(5);
        int x = pick(4);
        int y = pick(4);
        // Most blind instructions would fault on NIL at once and end the domain's life.
        if (0 <= d && d < m.domains.size() && 0 <= x && x < 4 && 0 <= y && y < 4 && below(40) != 0) {
            boolean get = op == CapMembrane.OP_GET0 || op == CapMembrane.OP_GET1;
            boolean act = op >= CapMembrane.OP_SET0 && op <= CapMembrane.OP_POKE;
            int needed = get ? y : x;
            for (int i = 0; i < 4 && (get || act) && m.domains.get(d).regs[needed] == -1; i++) {
                give(c, m, d, needed, pickThing(m, d), told);
            }
            if ((get || act) && m.domains.get(d).regs[needed] == -1) {
                op = CapMembrane.OP_NEW;
            }
        }
        told.add("emit(" + d + ", " + op + ", " + x + ", " + y + ")");
        due.is(last(told), c.emit(d, op, x, y), m.emit(d, op, x, y));
        if (below(3) != 0) {
            run(c, m, d, 32, told);
        }
    }

    private static void run(CapMembrane c, Model m, int d, int steps, List<String> told) {
        told.add("run(" + d + ", " + steps + ")");
        String[] before = new String[5];
        for (int i = 1; i <= 3; i++) {
            before[i] = c.revoked(i) && Holds.isUnder(c, d, i) ? Holds.outside(c, i, Due.count(c)) : null;
        }
        int objects = Due.count(c);
        due.is(last(told), c.run(d, steps), m.run(d, steps));
        for (int i = 1; i <= 3; i++) {
            if (before[i] != null) {
                due.same("under revoked " + i + ", " + last(told), before[i], Holds.outside(c, i, objects));
            }
        }
    }

    private static String last(List<String> told) {
        return told.get(told.size() - 1);
    }
}
