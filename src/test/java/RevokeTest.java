/** Promises 7 and 17. */
public final class RevokeTest {
    private static final Due due = new Due("RevokeTest");

    public static void main(String[] args) {
        CapMembrane c = new CapMembrane(16, 16);
        due.is("revoke(1) without domain 1", c.revoke(1), false);
        c.newDomain(0);
        due.is("revoked(1): a refused revoke leaves nothing behind", c.revoked(1), false);
        c.newDomain(0);
        c.newBox(0);
        c.give(1, 0, 2);
        c.give(2, 0, 2);
        String before = Due.look(c);
        int[] wrong = {0, -1, 3, 4, Integer.MIN_VALUE, Integer.MAX_VALUE};
        for (int m : wrong) {
            due.is("revoke(" + m + ")", c.revoke(m), false);
            due.is("revoked(" + m + ")", c.revoked(m), false);
        }
        due.same("refused revoke", before, Due.look(c));

        due.is("revoke(2)", c.revoke(2), true);
        due.is("revoked(2)", c.revoked(2), true);
        due.is("revoked(1)", c.revoked(1), false);
        due.is("revoke(2) again", c.revoke(2), false);
        due.is("revoked(2)", c.revoked(2), true);
        due.same("revoke, but for revoked(2)", before, Due.look(c).replace("true", "false"));

        due.is("newDomain(2)", c.newDomain(2), 3);
        due.is("revoked(3)", c.revoked(3), false);
        due.is("revoke(3)", c.revoke(3), true);
        due.is("revoke(1)", c.revoke(1), true);
        for (int m = -1; m <= 4; m++) {
            due.is("revoked(" + m + ")", c.revoked(m), m >= 1 && m <= 3);
        }
        due.is("hits(0): the host needs no revoker", c.hits(0), 0);
        due.end();
    }
}
