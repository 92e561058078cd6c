/** The boundary cases of INVOKE over up to three hops; above each test stands its step. */
public final class EdgeInvokeTest {
    private static final int TARGET = 3;
    private static final int ARG = 7;
    private static final int INSIDE = 8;

    /** The domains of three hops: straight up, straight down, and twice over the host. */
    private static final int[][] WAYS = {{3, 2, 1, 0}, {0, 1, 2, 3}, {1, 0, 2, 3}, {3, 2, 0, 1}};

    private static final Due due = new Due("EdgeInvokeTest");

    public static void main(String[] args) {
        for (int[] way : WAYS) {
            nullReference(way);
            revokedOnTheWayIn(way);
            fullOnTheWayIn(way);
            revokedOrFull(way);
            nilArgumentInFullArena(way);
            slotEdges(way);
            fullOnTheWayBack(way);
        }
        revokerAtTheEnd();
        revokerCrossedNoMembraneOfItsOwn();
        revokerTwice();
        revokedOnTheWayBack();
        revokedOnTheWayBackKeepsTheArgument();
        due.end();
    }

    /**
     * Four domains in the tree that the way needs. A box (3) at its end has the forwarders 4, 5 and
     * 6 back to its start, where register 0 holds 6 and register 1 holds box 7. Both slots of box 3
     * hold box 8, which has no forwarder. So many ids are free as asked for.
     */
    private static CapMembrane line(int[] way, int free) {
        CapMembrane c = new CapMembrane(16, 16);
        boolean straight = way[1] != 0 && way[2] != 0;
        c.newDomain(0);
        c.newDomain(straight ? 1 : 0);
        c.newDomain(2);
        c.newBox(way[3]);
        int held = TARGET;
        for (int i = 2; i >= 0; i--) {
            c.give(way[i], 0, held);
            held = c.reg(way[i], 0);
        }
        c.newBox(way[0]);
        c.newBox(way[3]);
        c.give(way[0], 1, ARG);
        c.give(way[3], 0, TARGET);
        c.give(way[3], 1, INSIDE);
        Scene.step(c, way[3], CapMembrane.OP_SET0, 0, 1);
        Scene.step(c, way[3], CapMembrane.OP_SET1, 0, 1);
        Due.fillTo(c, 16 - free);
        due.is("the scene's forwarder", c.reg(way[0], 0), 6);
        due.is("the scene's count", Due.count(c), 16 - free);
        return c;
    }

    private static int membraneOfHop(int[] way, int i) {
        return Math.max(way[i - 1], way[i]);
    }

    private static String named(int[] way) {
        return ", way " + way[0] + way[1] + way[2] + way[3];
    }

    /** Forwarders 6, 5 and 4 stand at hops 1, 2 and 3: the first ones have been hit once. */
    private static void hitsAreDue(CapMembrane c, String when, int forwarders, int target) {
        for (int i = 1; i <= 3; i++) {
            due.is(when + ": hits(" + (7 - i) + ")", c.hits(7 - i), i <= forwarders ? 1 : 0);
        }
        due.is(when + ": hits(3)", c.hits(TARGET), 2 + target);
        for (int o = 0; o < 16; o++) {
            if (o < TARGET || o > 6) {
                due.is(when + ": hits(" + o + ")", c.hits(o), 0);
            }
        }
    }

    private static void slotsAreDue(CapMembrane c, String when) {
        due.is(when + ": slot(3, 0)", c.slot(TARGET, 0), INSIDE);
        due.is(when + ": slot(3, 1)", c.slot(TARGET, 1), INSIDE);
    }

    /** So many forwarders were made for ARG on the way in, from id first on. */
    private static void argumentMade(CapMembrane c, int[] way, String when, int first, int made) {
        int link = ARG;
        for (int i = 1; i <= made; i++) {
            int f = first + i - 1;
            String want = " o" + f + ":3," + way[i] + "," + link + ",0[-1 -1 -1 -1 ]";
            due.same(when + ", made at hop " + i, want, Due.object(c, f));
            link = f;
        }
        due.is(when + ": count", Due.count(c), first + made);
    }

    private static void faultIsDue(CapMembrane c, int d, String when, int status) {
        due.is(when + ": status", c.status(d), status);
        due.is(when + ": pc", c.pc(d), 0);
        due.is(when + ": run again", c.run(d, 1), -1);
    }

    private static void registersAreDue(CapMembrane c, int d, String when) {
        due.same(when + ": registers", "-1 6 7 -1 -1 -1 ", Due.registers(c, d));
    }

    // "1. If r = NIL: fault NULL": before all else; nothing is hit, carried or made.
    private static void nullReference(int[] way) {
        for (int op : Scene.INVOKING) {
            for (int free = 0; free <= 3; free += 3) {
                for (int m = 0; m <= 3; m++) {
                    CapMembrane c = line(way, free);
                    int d = way[0];
                    c.revoke(m);
                    c.give(d, 0, -1);
                    String when = "op " + op + " on NIL, free " + free + ", revoked " + m + named(way);
                    String before = Due.objects(c, 33) + Due.registers(c);
                    due.is(when, Scene.invoke(c, d, op, 0, 1), 0);
                    due.same(when, before, Due.objects(c, 33) + Due.registers(c));
                    faultIsDue(c, d, when, CapMembrane.ST_NULL);
                }
            }
        }
    }

    // "2. ... if m is revoked, fault REVOKED; otherwise hits(cur) += 1": the forwarder that is
    // stopped at isn't hit and carries nothing; what the hops before it did stays.
    private static void revokedOnTheWayIn(int[] way) {
        for (int op : Scene.INVOKING) {
            for (int hop = 1; hop <= 3; hop++) {
                CapMembrane c = line(way, 4);
                int d = way[0];
                c.revoke(membraneOfHop(way, hop));
                String when = "op " + op + ", revoked at hop " + hop + named(way);
                due.is(when, Scene.invoke(c, d, op, 0, 1), 0);
                faultIsDue(c, d, when, CapMembrane.ST_REVOKED);
                hitsAreDue(c, when, hop - 1, 0);
                slotsAreDue(c, when);
                argumentMade(c, way, when, 12, Scene.isSet(op) ? hop - 1 : 0);
                registersAreDue(c, d, when);
            }
        }
    }

    // "arg = CARRY(arg, dom, e), and if that fails, fault FULL": the forwarder has been hit, and
    // what the hops before it made stays.
    private static void fullOnTheWayIn(int[] way) {
        for (int free = 0; free <= 2; free++) {
            for (int op = CapMembrane.OP_SET0; op <= CapMembrane.OP_SET1; op++) {
                CapMembrane c = line(way, free);
                int d = way[0];
                String when = "op " + op + ", free " + free + named(way);
                due.is(when, Scene.invoke(c, d, op, 0, 1), 0);
                faultIsDue(c, d, when, CapMembrane.ST_FULL);
                hitsAreDue(c, when, free + 1, 0);
                slotsAreDue(c, when);
                argumentMade(c, way, when, 16 - free, free);
                registersAreDue(c, d, when);
            }
        }
        CapMembrane c = line(way, 3);
        due.is("SET1 with three ids left", Scene.invoke(c, way[0], CapMembrane.OP_SET1, 0, 1), 1);
        hitsAreDue(c, "SET1", 3, 1);
        argumentMade(c, way, "SET1", 13, 3);
        due.is("slot(3, 1)", c.slot(TARGET, 1), 15);
        due.is("slot(3, 0)", c.slot(TARGET, 0), INSIDE);
        registersAreDue(c, way[0], "SET1");
    }

    // "A fault ends the invocation at once": of two causes the first on the way counts, and at one
    // and the same hop the revocation is looked at before the argument is carried.
    private static void revokedOrFull(int[] way) {
        for (int hop = 1; hop <= 3; hop++) {
            for (int free = 0; free <= 3; free++) {
                CapMembrane c = line(way, free);
                int d = way[0];
                c.revoke(membraneOfHop(way, hop));
                boolean full = free + 1 < hop;
                String when = "SET0, free " + free + ", revoked at hop " + hop + named(way);
                due.is(when, Scene.invoke(c, d, CapMembrane.OP_SET0, 0, 1), 0);
                faultIsDue(c, d, when, full ? CapMembrane.ST_FULL : CapMembrane.ST_REVOKED);
                hitsAreDue(c, when, full ? free + 1 : hop - 1, 0);
                slotsAreDue(c, when);
                argumentMade(c, way, when, 16 - free, full ? free : hop - 1);
            }
        }
    }

    // "arg is NIL unless op is SET0 or SET1": POKE and GET carry no argument, so a full arena is no
    // hindrance on the way in; nor is it for a SET of NIL.
    private static void nilArgumentInFullArena(int[] way) {
        CapMembrane c = line(way, 0);
        int d = way[0];
        due.is("full: POKE", Scene.step(c, d, CapMembrane.OP_POKE, 0, 1), 1);
        hitsAreDue(c, "full: POKE", 3, 1);
        slotsAreDue(c, "full: POKE");
        due.is("full: SET0 of NIL", Scene.step(c, d, CapMembrane.OP_SET0, 0, 2), 1);
        due.is("slot(3, 0)", c.slot(TARGET, 0), -1);
        due.is("slot(3, 1)", c.slot(TARGET, 1), INSIDE);
        due.is("full: GET0 of NIL", Scene.step(c, d, CapMembrane.OP_GET0, 1, 0), 1);
        due.is("reg 1", c.reg(d, 1), -1);
        due.is("count", Due.count(c), 16);
    }

    // "3. ... for GETk, res = slot k; for SETk, slot k = arg and res = NIL; for POKE, res = NIL":
    // an empty slot, a slot that is emptied, and the other slot left alone
    private static void slotEdges(int[] way) {
        for (int k = 0; k <= 1; k++) {
            int d = way[0];
            int set = CapMembrane.OP_SET0 + k;
            int get = CapMembrane.OP_GET0 + k;
            CapMembrane c = line(way, 4);
            due.is("SET" + k + " of NIL", Scene.step(c, d, set, 0, 3), 1);
            due.is("slot " + k, c.slot(TARGET, k), -1);
            due.is("the other slot", c.slot(TARGET, 1 - k), INSIDE);
            due.is("GET" + k + " of an empty slot", Scene.step(c, d, get, 1, 0), 1);
            due.is("reg 1", c.reg(d, 1), -1);
            due.is("reg 0 after a SET", c.reg(d, 0), 6);
            due.is("count", Due.count(c), 12);
            due.is("SET" + k + " of the forwarder itself", Scene.step(c, d, set, 0, 0), 1);
            due.is("slot " + k, c.slot(TARGET, k), TARGET);
            due.is("GET" + k + " of it", Scene.step(c, d, get, 2, 0), 1);
            due.is("reg 2", c.reg(d, 2), 6);
            due.is("count", Due.count(c), 12);
            due.is("hits(3)", c.hits(TARGET), 6);
        }
    }

    // "4. ... res = CARRY(res, e, x), and if that fails, fault FULL": the box has been hit, what the
    // way back made so far stays, and the destination register is left unchanged.
    private static void fullOnTheWayBack(int[] way) {
        for (int free = 0; free <= 3; free++) {
            for (int op = CapMembrane.OP_GET0; op <= CapMembrane.OP_GET1; op++) {
                CapMembrane c = line(way, free);
                int d = way[0];
                String when = "op " + op + ", free " + free + named(way);
                due.is(when, Scene.invoke(c, d, op, 0, 1), free == 3 ? 1 : 0);
                hitsAreDue(c, when, 3, 1);
                slotsAreDue(c, when);
                int link = INSIDE;
                for (int f = 16 - free; f < 16; f++) {
                    int home = way[2 - (f - 16 + free)];
                    due.same(when + ", made", " o" + f + ":3," + home + "," + link + ",0[-1 -1 -1 -1 ]",
                        Due.object(c, f));
                    link = f;
                }
                due.is(when + ": count", Due.count(c), 16);
                if (free < 3) {
                    faultIsDue(c, d, when, CapMembrane.ST_FULL);
                    registersAreDue(c, d, when);
                } else {
                    due.is(when + ": status", c.status(d), CapMembrane.ST_READY);
                    due.is(when + ": reg 1", c.reg(d, 1), 15);
                }
            }
        }
    }

    // "If cur is a REVOKER: membrane link(cur) becomes revoked, and res = NIL, for every op": it
    // stores nothing and answers no slot.
    private static void revokerAtTheEnd() {
        for (int op : Scene.INVOKING) {
            CapMembrane c = Scene.busy();
            c.run(0, 9);
            due.is("op " + op + " on the host's revoker", Scene.invoke(c, 0, op, 3, 0), 1);
            due.is("revoked(1)", c.revoked(1), true);
            due.is("revoked(2)", c.revoked(2), false);
            due.same("the revoker", " o0:2,0,1,1[-1 -1 -1 -1 ]", Due.object(c, 0));
            due.is("reg(0, 0)", c.reg(0, 0), Scene.isGet(op) ? -1 : 2);
            due.is("reg(0, 3)", c.reg(0, 3), 0);
            due.is("status(0)", c.status(0), CapMembrane.ST_READY);
        }
    }

    // Reached over another membrane than its own, a revoker's invocation comes back with NIL.
    private static void revokerCrossedNoMembraneOfItsOwn() {
        for (int op : Scene.INVOKING) {
            CapMembrane c = Scene.busy();
            c.run(0, 9);
            c.give(0, 3, 1);
            due.is("link(11)", c.link(11), 1);
            due.is("op " + op + " by the host on the revoker of 2", Scene.invoke(c, 0, op, 3, 0), 1);
            due.is("revoked(2)", c.revoked(2), true);
            due.is("revoked(1)", c.revoked(1), false);
            due.is("hits(11)", c.hits(11), 1);
            due.is("hits(1)", c.hits(1), 1);
            due.is("reg(0, 0)", c.reg(0, 0), Scene.isGet(op) ? -1 : 2);
            due.is("count", Due.count(c), 12);
        }
    }

    // "(it stays revoked if it already was)"
    private static void revokerTwice() {
        for (int op : Scene.INVOKING) {
            CapMembrane c = Scene.busyRevoked(1);
            c.run(0, 1);
            c.give(0, 2, 0);
            due.is("POKE on the revoker of 1, which is revoked", c.run(0, 1), 1);
            due.is("hits(0)", c.hits(0), 1);
            due.is("revoked(1)", c.revoked(1), true);
            due.is("op " + op + " on it once more", Scene.invoke(c, 0, op, 2, 0), 1);
            due.is("hits(0)", c.hits(0), 2);
            due.is("revoked(1)", c.revoked(1), true);
            due.is("revoked(2)", c.revoked(2), false);
            due.is("status(0)", c.status(0), CapMembrane.ST_READY);
        }
    }

    /** Domains 0 > 1 > 2 > 3; register 0 of domain 3 leads to the revoker of m; 16 - free ids are out. */
    private static CapMembrane revokerAbove(int m, int free) {
        CapMembrane c = new CapMembrane(16, 16);
        c.newDomain(0);
        c.newDomain(1);
        c.newDomain(2);
        int held = m - 1;
        for (int d = m; d <= 3; d++) {
            c.give(d, 0, held);
            held = c.reg(d, 0);
        }
        c.give(3, 1, c.newBox(3));
        Due.fillTo(c, 16 - free);
        return c;
    }

    // "4. ... if membrane max(x, e) is revoked at this moment, fault REVOKED": though res is NIL and
    // needs no room. The revocation and the hits stay, the destination is left unchanged.
    private static void revokedOnTheWayBack() {
        for (int m = 1; m <= 3; m++) {
            for (int free = 0; free <= 4; free += 4) {
                for (int op : Scene.INVOKING) {
                    if (Scene.isSet(op)) {
                        continue;
                    }
                    CapMembrane c = revokerAbove(m, free);
                    String when = "op " + op + " on the revoker of " + m + ", free " + free;
                    String registers = Due.registers(c);
                    int n = Due.count(c);
                    due.is(when, Scene.invoke(c, 3, op, 0, 1), 0);
                    faultIsDue(c, 3, when, CapMembrane.ST_REVOKED);
                    for (int i = 1; i <= 3; i++) {
                        due.is(when + ": revoked(" + i + ")", c.revoked(i), i == m);
                    }
                    for (int o = 0; o < n; o++) {
                        boolean onTheWay = o == m - 1 || o >= 3 && o < 3 + (4 - m);
                        due.is(when + ": hits(" + o + ")", c.hits(o), onTheWay ? 1 : 0);
                    }
                    due.same(when + ": registers", registers, Due.registers(c));
                    due.is(when + ": count", Due.count(c), n);
                }
            }
        }
    }

    // "Everything done before the fault stays: objects made": a SET's argument was carried all the
    // way before its revoker was reached; without room for it the revoker isn't reached.
    private static void revokedOnTheWayBackKeepsTheArgument() {
        for (int m = 1; m <= 3; m++) {
            int hops = 4 - m;
            for (int free = 0; free <= hops; free++) {
                CapMembrane c = revokerAbove(m, free);
                String when = "SET1 on the revoker of " + m + ", free " + free;
                due.is(when, Scene.step(c, 3, CapMembrane.OP_SET1, 0, 1), 0);
                boolean reached = free == hops;
                faultIsDue(c, 3, when, reached ? CapMembrane.ST_REVOKED : CapMembrane.ST_FULL);
                due.is(when + ": revoked(" + m + ")", c.revoked(m), reached);
                due.is(when + ": the revoker's hits", c.hits(m - 1), reached ? 1 : 0);
                due.is(when + ": count", Due.count(c), 16);
                int link = 3 + hops;
                for (int f = 16 - free; f < 16; f++) {
                    int home = 2 - (f - 16 + free);
                    due.same(when + ", made", " o" + f + ":3," + home + "," + link + ",0[-1 -1 -1 -1 ]",
                        Due.object(c, f));
                    link = f;
                }
            }
        }
    }
}
