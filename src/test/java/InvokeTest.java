/** CARRY and INVOKE as run (promise 6) uses them across membranes. */
public final class InvokeTest {
    private static final int GET0 = CapMembrane.OP_GET0;
    private static final int GET1 = CapMembrane.OP_GET1;
    private static final int SET0 = CapMembrane.OP_SET0;
    private static final int SET1 = CapMembrane.OP_SET1;
    private static final int POKE = CapMembrane.OP_POKE;

    private static final Due due = new Due("InvokeTest");

    public static void main(String[] args) {
        upward();
        downward();
        twoHops();
        betweenSiblings();
        argumentFull();
        argumentFullAtSecondHop();
        resultFull();
        resultFullAtSecondHop();
        revokedAtFirstHop();
        revokedAtSecondHop();
        revokedElsewhere();
        ownRevoker();
        ownRevokerTwoHopsAway();
        otherRevoker();
        revokerInPlace();
        due.end();
    }

    /** Appends one instruction to d and runs it. */
    private static int step(CapMembrane c, int d, int op, int x, int y) {
        due.is("emit(" + d + ", " + op + ", " + x + ", " + y + ")", c.emit(d, op, x, y), true);
        return c.run(d, 1);
    }

    // Revoker 0, host boxes 1 and 2, guest box 3, and 4 as the guest's forwarder for 1.
    private static CapMembrane hostAndGuest(int objects) {
        CapMembrane c = new CapMembrane(objects, 32);
        c.newDomain(0);
        c.newBox(0);
        c.newBox(0);
        c.newBox(1);
        c.give(1, 0, 1);
        c.give(1, 1, 3);
        c.give(0, 0, 1);
        c.give(0, 1, 2);
        due.is("reg(1, 0)", c.reg(1, 0), 4);
        return c;
    }

    // Revokers 0 and 1, host box 2, its forwarders 3 in domain 1 and 4 in domain 2, box 5 in domain 2.
    private static CapMembrane chain(int objects) {
        CapMembrane c = new CapMembrane(objects, 32);
        c.newDomain(0);
        c.newDomain(1);
        c.newBox(0);
        c.give(1, 0, 2);
        c.give(2, 0, 3);
        c.newBox(2);
        c.give(2, 1, 5);
        c.give(0, 0, 2);
        due.is("reg(2, 0)", c.reg(2, 0), 4);
        return c;
    }

    private static void upward() {
        CapMembrane c = hostAndGuest(16);
        due.is("POKE", step(c, 1, POKE, 0, 1), 1);
        due.is("hits(4)", c.hits(4), 1);
        due.is("hits(1)", c.hits(1), 1);
        due.is("kind(5): POKE carries no argument", c.kind(5), CapMembrane.KIND_NONE);
        due.is("SET0 of a guest box", step(c, 1, SET0, 0, 1), 1);
        due.is("slot(1, 0)", c.slot(1, 0), 5);
        due.is("home(5)", c.home(5), 0);
        due.is("link(5)", c.link(5), 3);
        due.is("reg(1, 0) after SET0", c.reg(1, 0), 4);
        due.is("GET0 unwraps it", step(c, 1, GET0, 2, 0), 1);
        due.is("reg(1, 2)", c.reg(1, 2), 3);
        due.is("SET1 of the guest's forwarder", step(c, 1, SET1, 0, 0), 1);
        due.is("slot(1, 1) is unwrapped", c.slot(1, 1), 1);
        due.is("GET1", step(c, 1, GET1, 3, 0), 1);
        due.is("reg(1, 3) is the forwarder that stands", c.reg(1, 3), 4);
        due.is("kind(6)", c.kind(6), CapMembrane.KIND_NONE);
        due.is("hits(4)", c.hits(4), 5);
        due.is("hits(1)", c.hits(1), 5);
        due.is("hits(5)", c.hits(5), 0);
        due.is("hits(3)", c.hits(3), 0);
        due.is("host SET0", step(c, 0, SET0, 0, 1), 1);
        due.is("GET0 wraps a host box", step(c, 1, GET0, 2, 0), 1);
        due.is("reg(1, 2)", c.reg(1, 2), 6);
        due.is("home(6)", c.home(6), 1);
        due.is("link(6)", c.link(6), 2);
        due.is("DROP", step(c, 1, CapMembrane.OP_DROP, 2, 0), 1);
        due.is("SET0 of NIL", step(c, 1, SET0, 0, 2), 1);
        due.is("slot(1, 0)", c.slot(1, 0), -1);
        due.is("GET0 of NIL", step(c, 1, GET0, 3, 0), 1);
        due.is("reg(1, 3)", c.reg(1, 3), -1);
        due.is("kind(7)", c.kind(7), CapMembrane.KIND_NONE);
    }

    private static void downward() {
        CapMembrane c = hostAndGuest(16);
        c.give(0, 2, 3);
        due.is("reg(0, 2)", c.reg(0, 2), 5);
        due.is("host SET1 of host box 2", step(c, 0, SET1, 2, 1), 1);
        due.is("slot(3, 1)", c.slot(3, 1), 6);
        due.is("home(6)", c.home(6), 1);
        due.is("link(6)", c.link(6), 2);
        due.is("host GET1", step(c, 0, GET1, 3, 2), 1);
        due.is("reg(0, 3)", c.reg(0, 3), 2);
        due.is("guest SET0 of its own box", step(c, 1, SET0, 1, 1), 1);
        due.is("slot(3, 0)", c.slot(3, 0), 3);
        due.is("host GET0", step(c, 0, GET0, 3, 2), 1);
        due.is("reg(0, 3) is the forwarder that stands", c.reg(0, 3), 5);
        due.is("hits(5)", c.hits(5), 3);
        due.is("hits(3)", c.hits(3), 4);
        due.is("kind(7)", c.kind(7), CapMembrane.KIND_NONE);
    }

    private static void twoHops() {
        CapMembrane c = chain(16);
        due.is("SET0", step(c, 2, SET0, 0, 1), 1);
        due.is("home(6): the nearer forwarder comes first", c.home(6), 1);
        due.is("link(6)", c.link(6), 5);
        due.is("home(7)", c.home(7), 0);
        due.is("link(7)", c.link(7), 6);
        due.is("slot(2, 0)", c.slot(2, 0), 7);
        due.is("GET0", step(c, 2, GET0, 2, 0), 1);
        due.is("reg(2, 2)", c.reg(2, 2), 5);
        due.is("hits(4)", c.hits(4), 2);
        due.is("hits(3)", c.hits(3), 2);
        due.is("hits(2)", c.hits(2), 2);
        c.newBox(0);
        c.give(0, 1, 8);
        due.is("host SET1", step(c, 0, SET1, 0, 1), 1);
        due.is("GET1", step(c, 2, GET1, 3, 0), 1);
        due.is("home(9)", c.home(9), 1);
        due.is("link(9)", c.link(9), 8);
        due.is("home(10)", c.home(10), 2);
        due.is("link(10)", c.link(10), 9);
        due.is("reg(2, 3)", c.reg(2, 3), 10);
        due.is("kind(11)", c.kind(11), CapMembrane.KIND_NONE);
    }

    private static void betweenSiblings() {
        CapMembrane c = new CapMembrane(16, 16);
        c.newDomain(0);
        c.newDomain(0);
        c.newBox(2);
        c.give(0, 0, 2);
        c.give(1, 0, 3);
        c.newBox(1);
        c.give(1, 1, 5);
        due.is("reg(1, 0)", c.reg(1, 0), 4);
        due.is("SET1 from 1 over 0 into 2", step(c, 1, SET1, 0, 1), 1);
        due.is("home(6)", c.home(6), 0);
        due.is("link(6)", c.link(6), 5);
        due.is("home(7)", c.home(7), 2);
        due.is("link(7)", c.link(7), 6);
        due.is("slot(2, 1)", c.slot(2, 1), 7);
        due.is("GET1", step(c, 1, GET1, 2, 0), 1);
        due.is("reg(1, 2)", c.reg(1, 2), 5);
        due.is("SET0 of the reference itself", step(c, 1, SET0, 0, 0), 1);
        due.is("slot(2, 0)", c.slot(2, 0), 2);
        due.is("kind(8)", c.kind(8), CapMembrane.KIND_NONE);
        c.give(2, 0, 2);
        due.is("GET1 in 2", step(c, 2, GET1, 1, 0), 1);
        due.is("POKE from 2 into 1", step(c, 2, POKE, 1, 0), 1);
        due.is("hits(7)", c.hits(7), 1);
        due.is("hits(6)", c.hits(6), 1);
        due.is("hits(5)", c.hits(5), 1);
    }

    private static void argumentFull() {
        CapMembrane c = hostAndGuest(8);
        Due.fillTo(c, 8);
        due.is("SET0 of a guest box in a full arena", step(c, 1, SET0, 0, 1), 0);
        due.is("status(1)", c.status(1), CapMembrane.ST_FULL);
        due.is("pc(1)", c.pc(1), 0);
        due.is("hits(4) stays", c.hits(4), 1);
        due.is("hits(1)", c.hits(1), 0);
        due.is("slot(1, 0)", c.slot(1, 0), -1);
        due.is("kind(8)", c.kind(8), CapMembrane.KIND_NONE);
        due.is("run again", c.run(1, 1), -1);

        CapMembrane n = hostAndGuest(8);
        Due.fillTo(n, 8);
        due.is("POKE in a full arena", step(n, 1, POKE, 0, 1), 1);
        due.is("SET0 of what unwraps, in a full arena", step(n, 1, SET0, 0, 0), 1);
        due.is("GET0 of what stands, in a full arena", step(n, 1, GET0, 3, 0), 1);
        due.is("reg(1, 3)", n.reg(1, 3), 4);
    }

    private static void argumentFullAtSecondHop() {
        CapMembrane c = chain(8);
        Due.fillTo(c, 7);
        due.is("SET1 with one id left", step(c, 2, SET1, 0, 1), 0);
        due.is("status(2)", c.status(2), CapMembrane.ST_FULL);
        due.is("kind(7) stays", c.kind(7), CapMembrane.KIND_FORWARDER);
        due.is("home(7)", c.home(7), 1);
        due.is("link(7)", c.link(7), 5);
        due.is("hits(4)", c.hits(4), 1);
        due.is("hits(3)", c.hits(3), 1);
        due.is("hits(2)", c.hits(2), 0);
        due.is("slot(2, 1)", c.slot(2, 1), -1);
    }

    private static void resultFull() {
        CapMembrane c = hostAndGuest(8);
        step(c, 0, SET0, 0, 1);
        Due.fillTo(c, 8);
        due.is("GET0 of a host box in a full arena", step(c, 1, GET0, 1, 0), 0);
        due.is("status(1)", c.status(1), CapMembrane.ST_FULL);
        due.is("reg(1, 1) is unchanged", c.reg(1, 1), 3);
        due.is("hits(4)", c.hits(4), 1);
        due.is("hits(1)", c.hits(1), 2);
        due.is("status(0)", c.status(0), CapMembrane.ST_READY);
    }

    private static void resultFullAtSecondHop() {
        CapMembrane c = chain(8);
        c.newBox(0);
        c.give(0, 1, 6);
        step(c, 0, SET0, 0, 1);
        due.is("GET0 with one id left", step(c, 2, GET0, 1, 0), 0);
        due.is("status(2)", c.status(2), CapMembrane.ST_FULL);
        due.is("home(7) stays", c.home(7), 1);
        due.is("link(7)", c.link(7), 6);
        due.is("reg(2, 1) is unchanged", c.reg(2, 1), 5);
        due.is("hits(2)", c.hits(2), 2);

        CapMembrane n = chain(8);
        n.newBox(0);
        n.give(0, 1, 6);
        step(n, 0, SET0, 0, 1);
        Due.fillTo(n, 8);
        due.is("GET0 with no id left", step(n, 2, GET0, 1, 0), 0);
        due.is("status(2)", n.status(2), CapMembrane.ST_FULL);
        due.is("kind(7)", n.kind(7), CapMembrane.KIND_BOX);
        due.is("reg(2, 1) is unchanged", n.reg(2, 1), 5);
        due.is("hits(2)", n.hits(2), 2);
    }

    private static void revokedAtFirstHop() {
        int[] ops = {GET0, GET1, SET0, SET1, POKE};
        for (int op : ops) {
            boolean get = op == GET0 || op == GET1;
            CapMembrane c = hostAndGuest(16);
            c.revoke(1);
            due.is("op " + op + ", revoked", step(c, 1, op, get ? 1 : 0, get ? 0 : 1), 0);
            due.is("status(1)", c.status(1), CapMembrane.ST_REVOKED);
            due.is("pc(1)", c.pc(1), 0);
            due.is("hits(4)", c.hits(4), 0);
            due.is("hits(1)", c.hits(1), 0);
            due.is("reg(1, 1)", c.reg(1, 1), 3);
            due.is("slot(1, 0)", c.slot(1, 0), -1);
            due.is("kind(5)", c.kind(5), CapMembrane.KIND_NONE);
            due.is("run again", c.run(1, 1), -1);
        }
        CapMembrane c = hostAndGuest(16);
        c.give(0, 2, 3);
        c.revoke(1);
        due.is("guest on its own box, revoked", step(c, 1, SET0, 1, 1), 1);
        due.is("host on its own box, revoked", step(c, 0, SET0, 0, 1), 1);
        due.is("host on the guest's box, revoked", step(c, 0, POKE, 2, 0), 0);
        due.is("status(0)", c.status(0), CapMembrane.ST_REVOKED);
        due.is("hits(3)", c.hits(3), 1);
    }

    private static void revokedAtSecondHop() {
        CapMembrane c = chain(16);
        c.revoke(1);
        due.is("SET0 over 1, which is revoked", step(c, 2, SET0, 0, 1), 0);
        due.is("status(2)", c.status(2), CapMembrane.ST_REVOKED);
        due.is("hits(4) stays", c.hits(4), 1);
        due.is("hits(3)", c.hits(3), 0);
        due.is("hits(2)", c.hits(2), 0);
        due.is("home(6) stays", c.home(6), 1);
        due.is("link(6)", c.link(6), 5);
        due.is("kind(7)", c.kind(7), CapMembrane.KIND_NONE);
        due.is("slot(2, 0)", c.slot(2, 0), -1);

        CapMembrane n = chain(16);
        n.revoke(2);
        due.is("domain 1 over membrane 1, 2 is revoked", step(n, 1, POKE, 0, 0), 1);
        due.is("domain 2 over membrane 2", step(n, 2, POKE, 0, 0), 0);
        due.is("hits(4)", n.hits(4), 0);
        due.is("hits(3)", n.hits(3), 1);
    }

    private static void revokedElsewhere() {
        CapMembrane c = chain(16);
        c.give(1, 1, 5);
        due.is("reg(1, 1)", c.reg(1, 1), 6);
        c.revoke(1);
        due.is("domain 1, itself revoked, on its child's box", step(c, 1, SET0, 1, 1), 1);
        due.is("slot(5, 0)", c.slot(5, 0), 5);

        CapMembrane n = chain(16);
        n.give(1, 1, 5);
        n.give(0, 1, 6);
        n.newBox(1);
        n.give(0, 2, 8);
        due.is("host over 1 into 2", step(n, 0, POKE, 1, 0), 1);
        due.is("hits(5)", n.hits(5), 1);
        n.revoke(2);
        due.is("host into 1, 2 is revoked", step(n, 0, POKE, 2, 0), 1);
        due.is("hits(8)", n.hits(8), 1);
        due.is("host over 1 into 2, which is revoked", step(n, 0, POKE, 1, 0), 0);
        due.is("status(0)", n.status(0), CapMembrane.ST_REVOKED);
        due.is("hits(5)", n.hits(5), 1);
    }

    private static void ownRevoker() {
        int[] ops = {GET0, GET1, SET0, SET1, POKE};
        for (int op : ops) {
            boolean get = op == GET0 || op == GET1;
            CapMembrane c = hostAndGuest(16);
            c.give(1, 0, 0);
            due.is("reg(1, 0)", c.reg(1, 0), 5);
            due.is("op " + op + " on its own revoker", step(c, 1, op, get ? 1 : 0, get ? 0 : 1), 0);
            due.is("status(1)", c.status(1), CapMembrane.ST_REVOKED);
            due.is("revoked(1)", c.revoked(1), true);
            due.is("hits(5)", c.hits(5), 1);
            due.is("hits(0)", c.hits(0), 1);
            due.is("reg(1, 1) is unchanged", c.reg(1, 1), 3);
            boolean set = op == SET0 || op == SET1;
            due.is("kind(6)", c.kind(6), set ? CapMembrane.KIND_FORWARDER : CapMembrane.KIND_NONE);
            due.is("link(0)", c.link(0), 1);
        }
    }

    private static void ownRevokerTwoHopsAway() {
        CapMembrane c = chain(16);
        c.give(1, 1, 0);
        c.give(2, 2, 6);
        due.is("reg(2, 2)", c.reg(2, 2), 7);
        due.is("GET0 on the revoker of membrane 1", step(c, 2, GET0, 1, 2), 0);
        due.is("status(2)", c.status(2), CapMembrane.ST_REVOKED);
        due.is("revoked(1)", c.revoked(1), true);
        due.is("revoked(2)", c.revoked(2), false);
        due.is("reg(2, 1)", c.reg(2, 1), 5);
        due.is("hits(7)", c.hits(7), 1);
        due.is("hits(6)", c.hits(6), 1);
        due.is("hits(0)", c.hits(0), 1);
    }

    private static void otherRevoker() {
        CapMembrane c = new CapMembrane(16, 16);
        c.newDomain(0);
        c.newDomain(0);
        c.newDomain(1);
        c.newBox(1);
        c.give(1, 0, 1);
        c.give(1, 1, 3);
        c.give(1, 3, 3);
        due.is("reg(1, 0): the revoker of the sibling", c.reg(1, 0), 4);
        due.is("SET0 on it", step(c, 1, SET0, 0, 1), 1);
        due.is("revoked(2)", c.revoked(2), true);
        due.is("revoked(1)", c.revoked(1), false);
        due.is("link(5): the argument was carried", c.link(5), 3);
        due.is("slot(1, 0)", c.slot(1, 0), -1);
        due.is("GET0 on it, revoked before", step(c, 1, GET0, 3, 0), 1);
        due.is("reg(1, 3)", c.reg(1, 3), -1);
        due.is("hits(1)", c.hits(1), 2);
        due.is("status(1)", c.status(1), CapMembrane.ST_READY);
        c.give(0, 0, 2);
        due.is("host POKE on the revoker of 3 inside 1", step(c, 0, POKE, 0, 0), 1);
        due.is("revoked(3)", c.revoked(3), true);
        due.is("revoke(3) comes too late", c.revoke(3), false);
    }

    private static void revokerInPlace() {
        CapMembrane c = hostAndGuest(16);
        c.give(0, 2, 0);
        due.is("host GET1 on its revoker", step(c, 0, GET1, 1, 2), 1);
        due.is("reg(0, 1)", c.reg(0, 1), -1);
        due.is("revoked(1)", c.revoked(1), true);
        due.is("host SET1 on its revoker", step(c, 0, SET1, 2, 0), 1);
        due.is("revoked(1)", c.revoked(1), true);
        due.is("hits(0)", c.hits(0), 2);
        due.is("slot(0, 1)", c.slot(0, 1), -1);
        due.is("link(0)", c.link(0), 1);
        due.is("status(0)", c.status(0), CapMembrane.ST_READY);
        due.is("guest POKE on 4", step(c, 1, POKE, 0, 0), 0);
        due.is("status(1)", c.status(1), CapMembrane.ST_REVOKED);
    }
}
