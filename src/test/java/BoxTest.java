/** Promise 3. */
public final class BoxTest {
    private static final Due due = new Due("BoxTest");

    public static void main(String[] args) {
        CapMembrane c = new CapMembrane(8, 8);
        due.is("newBox(1) without domain 1", c.newBox(1), -1);
        c.newDomain(0);
        due.is("newBox(1)", c.newBox(1), 1);
        due.is("newBox(0)", c.newBox(0), 2);
        for (int b = 1; b <= 2; b++) {
            due.is("kind(" + b + ")", c.kind(b), CapMembrane.KIND_BOX);
            due.is("home(" + b + ")", c.home(b), 2 - b);
            due.is("link(" + b + ")", c.link(b), -1);
            due.is("hits(" + b + ")", c.hits(b), 0);
            due.is("slot(" + b + ", 0)", c.slot(b, 0), -1);
            due.is("slot(" + b + ", 1)", c.slot(b, 1), -1);
        }
        for (int d = 0; d < 2; d++) {
            for (int r = 0; r < 4; r++) {
                due.is("reg(" + d + ", " + r + ")", c.reg(d, r), -1);
            }
        }
        String before = Due.look(c);
        int[] missing = {-1, 2, 4, Integer.MIN_VALUE, Integer.MAX_VALUE};
        for (int d : missing) {
            due.is("newBox(" + d + ")", c.newBox(d), -1);
        }
        due.same("refused newBox", before, Due.look(c));

        c.revoke(1);
        due.is("newBox(1), revoked", c.newBox(1), 3);
        Due.fillTo(c, 8);
        before = Due.look(c);
        due.is("newBox(0) in a full arena", c.newBox(0), -1);
        due.is("newBox(1) in a full arena", c.newBox(1), -1);
        due.same("newBox in a full arena", before, Due.look(c));
        due.end();
    }
}
