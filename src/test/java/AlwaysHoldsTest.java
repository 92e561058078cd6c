/** "What always holds", sentence by sentence, at the edges of the runs that could break it. */
public final class AlwaysHoldsTest {
    private static final Due due = new Due("AlwaysHoldsTest");

    public static void main(String[] args) {
        homesHold();
        forwardersHold();
        revokedStays();
        revokedSubtreeReachesNothing();
        revokedSubtreeStillWorksInside();
        due.end();
    }

    // "every non-NIL register of d and every non-NIL slot of a BOX homed in d is an id v of an
    // existing object with home(v) = d": after every single instruction between every two domains,
    // with every number of free ids
    private static void homesHold() {
        for (int free = 0; free <= 4; free++) {
            for (int op = 0; op <= 7; op++) {
                for (int d = 0; d <= 2; d++) {
                    for (int x = 0; x < 16; x++) {
                        CapMembrane c = Scene.idle(17);
                        Due.fillTo(c, 17 - free);
                        c.give(d, 3, 13);
                        Scene.step(c, d, op, x / 4, x % 4);
                        Holds.look(due, c);
                    }
                }
            }
        }
    }

    // "For every forwarder f ... t < f; home(t) and home(f) are adjacent; t is not itself a
    // forwarder homed in home(f)'s neighbour whose target is homed in home(f). No two distinct
    // forwarders have both the same home and the same link": all objects to all domains, as long as
    // there is room and after that
    private static void forwardersHold() {
        for (int third = 0; third <= 2; third++) {
            CapMembrane c = Scene.busy(32, 32);
            c.newDomain(third);
            c.newBox(3);
            for (int round = 0; round < 3; round++) {
                for (int o = 0; o < 32; o++) {
                    for (int d = 0; d < 4; d++) {
                        c.give(d, (o + d) % 4, o);
                        Holds.look(due, c);
                    }
                }
            }
            due.is("the arena is full", Due.count(c), 32);
        }
    }

    // "revoked(m) never turns from true back to false": whatever is called after it
    private static void revokedStays() {
        for (int m = 1; m <= 2; m++) {
            CapMembrane c = Scene.idle(20);
            due.is("revoke(" + m + ")", c.revoke(m), true);
            c.revoke(m);
            due.is("after revoke again", c.revoked(m), true);
            c.newDomain(m);
            due.is("after newDomain", c.revoked(m), true);
            c.newDomain(0);
            due.is("after a refused newDomain", c.revoked(m), true);
            for (int o = 0; o < 14; o++) {
                c.give(m - 1, 0, o);
                c.give(m, 0, o);
            }
            due.is("after give", c.revoked(m), true);
            int revoker = m - 1;
            c.give(m - 1, 3, revoker);
            for (int op : Scene.INVOKING) {
                due.is("its revoker, op " + op, Scene.invoke(c, m - 1, op, 3, 3), 1);
                due.is("after its revoker", c.revoked(m), true);
                c.give(m - 1, 3, revoker);
            }
            due.is("its revoker's hits", c.hits(revoker), 5);
            due.is("over it", Scene.step(c, m, CapMembrane.OP_POKE, 1, 0), 0);
            due.is("after a fault", c.revoked(m), true);
            Due.fillTo(c, 20);
            due.is("in a full arena", c.revoked(m), true);
        }
    }

    // "If revoked(m) is true before a call run(d, s) and d lies in subtree(m), that call leaves hits
    // and both slots unchanged for every object whose home is outside subtree(m), and leaves every
    // register of every domain outside subtree(m) unchanged": each instruction of each domain
    private static void revokedSubtreeReachesNothing() {
        for (int m = 1; m <= 2; m++) {
            for (int d = m; d <= 2; d++) {
                for (int op = 0; op <= 7; op++) {
                    for (int x = 0; x < 16; x++) {
                        CapMembrane c = Scene.idle(32);
                        c.give(d, 3, d - 1);
                        c.revoke(m);
                        int n = Due.count(c);
                        String before = Holds.outside(c, m, n);
                        Scene.step(c, d, op, x / 4, x % 4);
                        due.same("under revoked " + m + ", domain " + d + ", op " + op + " " + x / 4 + " " + x % 4,
                            before, Holds.outside(c, m, n));
                        Holds.look(due, c);
                    }
                }
            }
        }
    }

    // Inside subtree(m) and outside of it, what doesn't cross m goes on.
    private static void revokedSubtreeStillWorksInside() {
        CapMembrane c = Scene.idle(16);
        c.revoke(1);
        int hits7 = c.hits(7);
        due.is("1 is revoked, 2 into 1", Scene.step(c, 2, CapMembrane.OP_SET0, 1, 0), 1);
        due.is("slot(4, 0)", c.slot(4, 0), 8);
        due.is("1 is revoked, 1 into 2", Scene.step(c, 1, CapMembrane.OP_SET0, 2, 0), 1);
        due.is("slot(5, 0)", c.slot(5, 0), 9);
        due.is("1 is revoked, the host in itself", Scene.step(c, 0, CapMembrane.OP_SET0, 0, 0), 1);
        int hits10 = c.hits(10);
        due.is("1 is revoked, 2 over 1 into 0", Scene.step(c, 2, CapMembrane.OP_POKE, 2, 0), 0);
        due.is("hits(10): it crossed 2", c.hits(10), hits10 + 1);
        due.is("hits(7): it stopped at 1", c.hits(7), hits7);
        CapMembrane n = Scene.idle(16);
        n.revoke(2);
        due.is("2 is revoked, 1 into 0", Scene.step(n, 1, CapMembrane.OP_SET0, 1, 0), 1);
        due.is("slot(2, 0)", n.slot(2, 0), 6);
        due.is("2 is revoked, 0 into 1", Scene.step(n, 0, CapMembrane.OP_SET0, 2, 0), 1);
        due.is("slot(4, 0)", n.slot(4, 0), 7);
        due.is("2 is revoked, 1 into 2", Scene.step(n, 1, CapMembrane.OP_POKE, 2, 0), 0);
        due.is("status(1)", n.status(1), CapMembrane.ST_REVOKED);
    }
}
