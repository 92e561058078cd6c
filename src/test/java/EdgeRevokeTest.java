import java.util.function.Supplier;

/** The boundary cases of promise 7; above each test stands the document's sentence. */
public final class EdgeRevokeTest {
    private static final Due due = new Due("EdgeRevokeTest");

    public static void main(String[] args) {
        revokeOutOfRange();
        revokeTwice();
        revokeChangesNothingElse();
        revokeDisablesAllForwarders();
        due.end();
    }

    // "If 1 <= m < the number of domains ... Otherwise the answer is false and nothing changes."
    private static void revokeOutOfRange() {
        for (int m : Scene.andFar(-1, 0, 3, 4)) {
            due.idleIf("busy revoke(" + m + ")", Scene::busy, c -> c.revoke(m), false);
        }
        for (int m : Scene.andFar(-1, 0, 1, 2, 3, 4)) {
            due.idleIf("fresh revoke(" + m + ")", () -> new CapMembrane(8, 8), c -> c.revoke(m), false);
        }
        for (int m : Scene.andFar(-1, 0, 4)) {
            due.idleIf("four domains revoke(" + m + ")", Scene::busyAllDomains, c -> c.revoke(m), false);
        }
        for (int m = 1; m <= 3; m++) {
            due.is("four domains revoke(" + m + ")", Scene.busyAllDomains().revoke(m), true);
        }
    }

    // "and m is not revoked ... Otherwise the answer is false and nothing changes": by the host or
    // by a revoker.
    private static void revokeTwice() {
        for (int m = 1; m <= 2; m++) {
            int membrane = m;
            due.idleIf("revoke(" + m + ") again", () -> Scene.busyRevoked(membrane),
                c -> c.revoke(membrane), false);
            Supplier<CapMembrane> byRevoker = () -> {
                CapMembrane c = Scene.busy();
                int holder = membrane - 1;
                c.run(holder, 9);
                c.give(holder, 3, holder);
                Scene.step(c, holder, CapMembrane.OP_POKE, 3, 0);
                return c;
            };
            due.is("the revoker's work", byRevoker.get().revoked(m), true);
            due.idleIf("revoke(" + m + ") after its revoker", byRevoker, c -> c.revoke(membrane), false);
        }
    }

    // "Revocation changes no object and no register; it only makes INVOKE and give refuse to cross
    // m."
    private static void revokeChangesNothingElse() {
        for (int m = 1; m <= 3; m++) {
            CapMembrane c = Scene.busyAllDomains();
            String before = Due.look(c);
            due.is("revoke(" + m + ")", c.revoke(m), true);
            due.same("revoke(" + m + ")", before, Due.look(c).replace("true", "false"));
            for (int i = 0; i <= 4; i++) {
                due.is("revoke(" + m + "), then revoked(" + i + ")", c.revoked(i), i == m);
            }
        }
        CapMembrane c = Scene.busyRevoked(1);
        due.is("revoked, the guest's program over 1", c.run(1, 9), 0);
        due.is("revoked, the guest's newBox", c.newBox(1), 11);
        due.is("revoked, the guest's own child", c.newDomain(1), 3);
        CapMembrane n = Scene.busyRevoked(2);
        due.is("2 is revoked, the program of 1 over 1", n.run(1, 9), 2);
        due.is("2 is revoked, the host's program over 1", n.run(0, 9), 2);
        due.is("2 is revoked, the program of 2 over 2", n.run(2, 9), 0);
        due.is("status(2)", n.status(2), CapMembrane.ST_REVOKED);
    }

    // "Revoking a membrane ... disables all of its forwarders at once": those of both sides, and no
    // other ones
    private static void revokeDisablesAllForwarders() {
        int[][] over = {{1}, {1}, {2}, {2}, {2, 1}, {1}, {2, 1}};
        for (int m = 1; m <= 2; m++) {
            for (int f = 6; f <= 12; f++) {
                CapMembrane c = Scene.idle(13);
                int d = c.home(f);
                c.give(d, 3, f);
                boolean stopped = over[f - 6][0] == m || over[f - 6].length == 2;
                String when = "revoke(" + m + "), then POKE on " + f;
                c.revoke(m);
                due.is(when, Scene.step(c, d, CapMembrane.OP_POKE, 3, 0), stopped ? 0 : 1);
                due.is(when + ": status", c.status(d), stopped ? CapMembrane.ST_REVOKED : 0);
            }
        }
    }
}
