/** "What always holds", looked at through the getters alone. */
final class Holds {
    private Holds() {
    }

    /** Whether d lies in subtree(m). */
    static boolean isUnder(CapMembrane c, int d, int m) {
        int at = d;
        for (int i = 0; i < CapMembrane.MAX_DOMAINS && at > m; i++) {
            at = c.parent(at);
        }
        return at == m;
    }

    /** Hits, slots and registers outside subtree(m), of the first n objects. */
    static String outside(CapMembrane c, int m, int n) {
        StringBuilder s = new StringBuilder();
        for (int o = 0; o < n; o++) {
            if (!isUnder(c, c.home(o), m)) {
                s.append(o).append(':').append(c.hits(o)).append(',');
                s.append(c.slot(o, 0)).append(',').append(c.slot(o, 1)).append(' ');
            }
        }
        for (int d = 0; d < CapMembrane.MAX_DOMAINS && c.parent(d) != -2; d++) {
            for (int r = 0; r < 4 && !isUnder(c, d, m); r++) {
                s.append(c.reg(d, r)).append(' ');
            }
        }
        return s.toString();
    }

    /** The registers, the slots and the forwarders of c at this moment. */
    static void look(Due due, CapMembrane c) {
        int n = Due.count(c);
        for (int d = 0; d < CapMembrane.MAX_DOMAINS && c.parent(d) != -2; d++) {
            for (int r = 0; r < 4; r++) {
                belongs(due, c, "reg(" + d + ", " + r + ")", c.reg(d, r), d, n);
            }
        }
        for (int o = 0; o < n; o++) {
            belongs(due, c, "slot(" + o + ", 0)", c.slot(o, 0), c.home(o), n);
            belongs(due, c, "slot(" + o + ", 1)", c.slot(o, 1), c.home(o), n);
            if (c.kind(o) == CapMembrane.KIND_FORWARDER) {
                forwarderHolds(due, c, o, n);
            }
        }
    }

    private static void belongs(Due due, CapMembrane c, String where, int v, int d, int n) {
        if (v != -1 && (v < 0 || v >= n || c.home(v) != d)) {
            due.tell(where + " names " + v + ", which is not of domain " + d);
        }
    }

    private static void forwarderHolds(Due due, CapMembrane c, int f, int n) {
        int t = c.link(f);
        int near = c.home(f);
        int far = c.home(t);
        boolean older = 0 <= t && t < f;
        boolean adjacent = c.parent(near) == far || c.parent(far) == near;
        boolean back = c.kind(t) == CapMembrane.KIND_FORWARDER && c.home(c.link(t)) == near;
        if (!older || !adjacent || back) {
            due.tell("forwarder " + f + " for " + t + " does not hold");
        }
        for (int g = f + 1; g < n; g++) {
            if (c.kind(g) == CapMembrane.KIND_FORWARDER && c.home(g) == near && c.link(g) == t) {
                due.tell("forwarders " + f + " and " + g + " are the same");
            }
        }
    }
}
