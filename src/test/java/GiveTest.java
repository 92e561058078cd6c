/** Promise 4, and with it CARRY. */
public final class GiveTest {
    private static final Due due = new Due("GiveTest");

    public static void main(String[] args) {
        wrongInputs();
        ownAndNil();
        carried();
        unwrapped();
        notAdjacent();
        throughTwo();
        revoked();
        full(8);
        full(32);
        revokerIsNoForwarder();
        due.end();
    }

    private static void wrongInputs() {
        CapMembrane c = new CapMembrane(16, 16);
        c.newDomain(0);
        c.newBox(0);
        String before = Due.look(c);
        int[][] wrong = {
            {-1, 0, 1}, {2, 0, 1}, {Integer.MIN_VALUE, 0, 1}, {Integer.MAX_VALUE, 0, 1},
            {0, -1, 1}, {0, 4, 1}, {0, Integer.MIN_VALUE, 1}, {0, Integer.MAX_VALUE, 1},
            {0, 0, 2}, {0, 0, -2}, {0, 0, Integer.MIN_VALUE}, {0, 0, Integer.MAX_VALUE},
            {-1, 0, -1}, {2, 0, -1}, {0, -1, -1}, {0, 4, -1}, {1, 0, 2}, {1, 4, 1}, {1, -1, 1},
        };
        for (int[] w : wrong) {
            due.is("give(" + w[0] + ", " + w[1] + ", " + w[2] + ")", c.give(w[0], w[1], w[2]), false);
        }
        due.same("refused give", before, Due.look(c));
    }

    private static void ownAndNil() {
        CapMembrane c = new CapMembrane(16, 16);
        c.newDomain(0);
        c.newBox(1);
        for (int r = 0; r < 4; r++) {
            due.is("give(1, " + r + ", 1)", c.give(1, r, 1), true);
            due.is("reg(1, " + r + ")", c.reg(1, r), 1);
            due.is("reg(0, " + r + ")", c.reg(0, r), -1);
        }
        due.is("give(0, 3, 0) of a revoker", c.give(0, 3, 0), true);
        due.is("reg(0, 3)", c.reg(0, 3), 0);
        due.is("kind(2)", c.kind(2), CapMembrane.KIND_NONE);
        c.revoke(1);
        due.is("give(1, 2, NIL), revoked", c.give(1, 2, -1), true);
        due.is("reg(1, 2)", c.reg(1, 2), -1);
        due.is("reg(1, 3)", c.reg(1, 3), 1);
        due.is("give(1, 2, 1) of its own, revoked", c.give(1, 2, 1), true);
        due.is("reg(1, 2)", c.reg(1, 2), 1);
    }

    private static void carried() {
        CapMembrane c = new CapMembrane(16, 16);
        c.newDomain(0);
        c.newBox(0);
        due.is("give(1, 0, 1)", c.give(1, 0, 1), true);
        due.is("reg(1, 0)", c.reg(1, 0), 2);
        due.is("kind(2)", c.kind(2), CapMembrane.KIND_FORWARDER);
        due.is("home(2)", c.home(2), 1);
        due.is("link(2)", c.link(2), 1);
        due.is("hits(2)", c.hits(2), 0);
        due.is("slot(2, 0)", c.slot(2, 0), -1);
        due.is("give(1, 3, 1) again", c.give(1, 3, 1), true);
        due.is("reg(1, 3) is the same forwarder", c.reg(1, 3), 2);
        due.is("kind(3)", c.kind(3), CapMembrane.KIND_NONE);
        due.is("newBox(1)", c.newBox(1), 3);
        due.is("give(0, 1, 3) upward", c.give(0, 1, 3), true);
        due.is("reg(0, 1)", c.reg(0, 1), 4);
        due.is("home(4)", c.home(4), 0);
        due.is("link(4)", c.link(4), 3);
        due.is("hits(1)", c.hits(1), 0);
    }

    private static void unwrapped() {
        CapMembrane c = new CapMembrane(16, 16);
        c.newDomain(0);
        c.newBox(0);
        c.newBox(1);
        c.give(1, 0, 1);
        c.give(0, 0, 2);
        due.is("kind(4)", c.kind(4), CapMembrane.KIND_FORWARDER);
        due.is("give(0, 1, 3) of the guest's forwarder", c.give(0, 1, 3), true);
        due.is("reg(0, 1)", c.reg(0, 1), 1);
        due.is("give(1, 1, 4) of the host's forwarder", c.give(1, 1, 4), true);
        due.is("reg(1, 1)", c.reg(1, 1), 2);
        due.is("kind(5)", c.kind(5), CapMembrane.KIND_NONE);
    }

    private static void notAdjacent() {
        CapMembrane c = new CapMembrane(16, 16);
        c.newDomain(0);
        c.newDomain(1);
        c.newDomain(0);
        c.newBox(0);
        c.newBox(1);
        c.newBox(2);
        c.newBox(3);
        String before = Due.look(c);
        int[][] far = {{2, 3}, {0, 5}, {3, 4}, {1, 6}, {3, 5}, {2, 6}};
        for (int[] f : far) {
            due.is("give(" + f[0] + ", 0, " + f[1] + ")", c.give(f[0], 0, f[1]), false);
        }
        due.same("give to a domain that is not adjacent", before, Due.look(c));
        due.is("give(2, 0, 4)", c.give(2, 0, 4), true);
        due.is("give(1, 0, 5)", c.give(1, 0, 5), true);
        due.is("give(3, 0, 3)", c.give(3, 0, 3), true);
        due.is("give(0, 0, 6)", c.give(0, 0, 6), true);
    }

    private static void throughTwo() {
        CapMembrane c = new CapMembrane(16, 16);
        c.newDomain(0);
        c.newDomain(1);
        c.newDomain(0);
        c.newBox(0);
        c.give(1, 0, 3);
        due.is("give(2, 0, 4) of a forwarder", c.give(2, 0, 4), true);
        due.is("home(5)", c.home(5), 2);
        due.is("link(5)", c.link(5), 4);
        due.is("give(3, 0, 3) into another child", c.give(3, 0, 3), true);
        due.is("home(6)", c.home(6), 3);
        due.is("link(6)", c.link(6), 3);
        due.is("give(1, 1, 5) back up", c.give(1, 1, 5), true);
        due.is("reg(1, 1)", c.reg(1, 1), 4);
        c.newBox(1);
        c.give(0, 0, 7);
        due.is("give(3, 1, 8): the host's forwarder for 1 into 3", c.give(3, 1, 8), true);
        due.is("link(9)", c.link(9), 8);
        due.is("home(9)", c.home(9), 3);
    }

    private static void revoked() {
        CapMembrane c = new CapMembrane(16, 16);
        c.newDomain(0);
        c.newDomain(1);
        c.newBox(0);
        c.newBox(1);
        c.newBox(2);
        c.give(1, 0, 2);
        c.revoke(1);
        String before = Due.look(c);
        due.is("give(1, 1, 2), a forwarder stands, revoked", c.give(1, 1, 2), false);
        due.is("give(0, 1, 3), none stands, revoked", c.give(0, 1, 3), false);
        due.is("give(0, 1, 5), an unwrap, revoked", c.give(0, 1, 5), false);
        due.same("give across a revoked membrane", before, Due.look(c));
        due.is("give(2, 0, 3), membrane 2 stands", c.give(2, 0, 3), true);
        due.is("give(1, 1, 4), membrane 2 stands", c.give(1, 1, 4), true);
        c.revoke(2);
        due.is("give(2, 1, 3), revoked", c.give(2, 1, 3), false);
        due.is("give(1, 2, 4), revoked", c.give(1, 2, 4), false);
    }

    private static void full(int n) {
        CapMembrane c = new CapMembrane(n, 8);
        c.newDomain(0);
        c.newBox(0);
        c.newBox(0);
        Due.fillTo(c, n - 1);
        due.is("give(1, 0, 1) with the last id", c.give(1, 0, 1), true);
        due.is("reg(1, 0)", c.reg(1, 0), n - 1);
        String before = Due.look(c);
        due.is("give(1, 0, 2) in a full arena", c.give(1, 0, 2), false);
        due.same("give in a full arena", before, Due.look(c));
        due.is("give(1, 1, 1), the forwarder stands", c.give(1, 1, 1), true);
        due.is("reg(1, 1)", c.reg(1, 1), n - 1);
        due.is("give(0, 0, N-1), an unwrap", c.give(0, 0, n - 1), true);
        due.is("reg(0, 0)", c.reg(0, 0), 1);
        due.is("kind(N)", c.kind(n), CapMembrane.KIND_NONE);
    }

    // The link of a revoker is a membrane's number, not an object.
    private static void revokerIsNoForwarder() {
        CapMembrane c = new CapMembrane(16, 16);
        c.newDomain(0);
        c.newBox(1);
        due.is("give(0, 0, 1): revoker 0 has home 0 and link 1", c.give(0, 0, 1), true);
        due.is("reg(0, 0)", c.reg(0, 0), 2);
        due.is("kind(2)", c.kind(2), CapMembrane.KIND_FORWARDER);
        due.is("give(1, 0, 0) of the revoker", c.give(1, 0, 0), true);
        due.is("reg(1, 0)", c.reg(1, 0), 3);
        due.is("link(3)", c.link(3), 0);
    }
}
