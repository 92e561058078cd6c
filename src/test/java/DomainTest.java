/** Promises 2 and 16. */
public final class DomainTest {
    private static final Due due = new Due("DomainTest");

    public static void main(String[] args) {
        made();
        refused();
        noRoom();
        shapes();
        due.end();
    }

    private static void made() {
        CapMembrane c = new CapMembrane(16, 16);
        c.newBox(0);
        due.is("newDomain(0)", c.newDomain(0), 1);
        due.is("parent(1)", c.parent(1), 0);
        due.is("kind(1)", c.kind(1), CapMembrane.KIND_REVOKER);
        due.is("home(1)", c.home(1), 0);
        due.is("link(1)", c.link(1), 1);
        due.is("hits(1)", c.hits(1), 0);
        due.is("slot(1, 0)", c.slot(1, 0), -1);
        due.is("slot(1, 1)", c.slot(1, 1), -1);
        due.is("kind(2)", c.kind(2), CapMembrane.KIND_NONE);
        due.is("status(1)", c.status(1), CapMembrane.ST_READY);
        due.is("pc(1)", c.pc(1), 0);
        due.is("revoked(1)", c.revoked(1), false);
        due.is("run(1, 1) of an empty program", c.run(1, 1), 0);
        for (int r = 0; r < 4; r++) {
            due.is("reg(1, " + r + ")", c.reg(1, r), -1);
        }
        due.is("newBox after it", c.newBox(0), 2);
    }

    private static void refused() {
        CapMembrane c = new CapMembrane(16, 16);
        int[] wrong = {-1, 1, 4, Integer.MIN_VALUE, Integer.MAX_VALUE};
        String before = Due.look(c);
        for (int p : wrong) {
            due.is("newDomain(" + p + ")", c.newDomain(p), -1);
        }
        due.same("refused newDomain", before, Due.look(c));
        due.is("newDomain(0)", c.newDomain(0), 1);
        due.is("newDomain(0)", c.newDomain(0), 2);
        due.is("newDomain(0)", c.newDomain(0), 3);
        before = Due.look(c);
        for (int p = -1; p <= 4; p++) {
            due.is("a fifth domain, newDomain(" + p + ")", c.newDomain(p), -1);
        }
        due.same("a fifth domain", before, Due.look(c));
    }

    private static void noRoom() {
        CapMembrane c = new CapMembrane(8, 8);
        Due.fillTo(c, 7);
        due.is("newDomain(0) with the last id", c.newDomain(0), 1);
        due.is("kind(7)", c.kind(7), CapMembrane.KIND_REVOKER);
        String before = Due.look(c);
        due.is("newDomain(0) in a full arena", c.newDomain(0), -1);
        due.is("newDomain(1) in a full arena", c.newDomain(1), -1);
        due.same("newDomain in a full arena", before, Due.look(c));
        due.is("parent(2)", c.parent(2), -2);
    }

    private static void shapes() {
        CapMembrane chain = new CapMembrane(16, 16);
        for (int d = 1; d < 4; d++) {
            due.is("chain newDomain", chain.newDomain(d - 1), d);
            due.is("chain parent(" + d + ")", chain.parent(d), d - 1);
            due.is("chain revoker's home", chain.home(d - 1), d - 1);
            due.is("chain revoker's link", chain.link(d - 1), d);
        }
        due.is("parent(0)", chain.parent(0), -1);
        int[] missing = {-1, 4, Integer.MIN_VALUE, Integer.MAX_VALUE};
        for (int d : missing) {
            due.is("parent(" + d + ")", chain.parent(d), -2);
        }

        CapMembrane fork = new CapMembrane(16, 16);
        fork.newDomain(0);
        fork.revoke(1);
        due.is("fork newDomain(1) under a revoked membrane", fork.newDomain(1), 2);
        due.is("fork revoked(2)", fork.revoked(2), false);
        due.is("fork newDomain(1)", fork.newDomain(1), 3);
        due.is("fork parent(2)", fork.parent(2), 1);
        due.is("fork parent(3)", fork.parent(3), 1);
        due.is("fork revoked(1)", fork.revoked(1), true);
    }
}
