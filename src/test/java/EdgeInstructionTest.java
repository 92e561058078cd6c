/** The boundary cases of "Instructions"; above each test stands the document's sentence. */
public final class EdgeInstructionTest {
    private static final int NEW = CapMembrane.OP_NEW;
    private static final int MOV = CapMembrane.OP_MOV;
    private static final int GET0 = CapMembrane.OP_GET0;
    private static final int SET0 = CapMembrane.OP_SET0;
    private static final int POKE = CapMembrane.OP_POKE;
    private static final int DROP = CapMembrane.OP_DROP;

    private static final Due due = new Due("EdgeInstructionTest");

    public static void main(String[] args) {
        newInFullArena();
        newWithLastId();
        mov();
        get();
        set();
        poke();
        drop();
        faultLeavesDestination();
        due.end();
    }

    /** Domain d, the last of d + 1 in a row, holds its own boxes b to b + 3 in its registers. */
    private static CapMembrane fourBoxes(int d) {
        CapMembrane c = new CapMembrane(16, 16);
        for (int i = 0; i < d; i++) {
            c.newDomain(i);
        }
        for (int r = 0; r < 4; r++) {
            c.give(d, r, c.newBox(d));
        }
        return c;
    }

    private static void registersAreDue(CapMembrane c, String when, int d, int... want) {
        for (int r = 0; r < 4; r++) {
            due.is(when + ": reg(" + d + ", " + r + ")", c.reg(d, r), want[r]);
        }
    }

    /** The boxes b to b + 3, but with other instead of b + at. */
    private static int[] but(int b, int at, int other) {
        int[] regs = {b, b + 1, b + 2, b + 3};
        regs[at] = other;
        return regs;
    }

    // "OP_NEW x: if count = N, fault FULL"; y isn't used.
    private static void newInFullArena() {
        for (int d = 0; d < 4; d++) {
            for (int x = 0; x < 4; x++) {
                for (int y = 0; y < 4; y++) {
                    CapMembrane c = fourBoxes(d);
                    Due.fillTo(c, 16);
                    String before = Due.objects(c, 33) + Due.registers(c);
                    due.is("full NEW " + x + " " + y, Scene.step(c, d, NEW, x, y), 0);
                    due.same("full NEW " + x + " " + y, before, Due.objects(c, 33) + Due.registers(c));
                    due.is("status", c.status(d), CapMembrane.ST_FULL);
                    due.is("pc", c.pc(d), 0);
                }
            }
        }
    }

    // "otherwise make a new BOX homed in d and set R[x] to its id", up to the last id
    private static void newWithLastId() {
        for (int d = 0; d < 4; d++) {
            for (int x = 0; x < 4; x++) {
                CapMembrane c = fourBoxes(d);
                Due.fillTo(c, 15);
                due.is("NEW " + x + " with one id left", Scene.step(c, d, NEW, x, 3 - x), 1);
                registersAreDue(c, "NEW " + x, d, but(d, x, 15));
                due.same("the box", " o15:1," + d + ",-1,0[-1 -1 -1 -1 ]", Due.object(c, 15));
                due.is("NEW " + x + " with none left", Scene.step(c, d, NEW, x, 3 - x), 0);
                registersAreDue(c, "NEW " + x, d, but(d, x, 15));
            }
        }
    }

    // "OP_MOV x y: R[x] = R[y]": of NIL too, and onto itself
    private static void mov() {
        for (int d = 0; d < 4; d++) {
            for (int x = 0; x < 4; x++) {
                for (int y = 0; y < 4; y++) {
                    CapMembrane c = fourBoxes(d);
                    String before = Due.objects(c, 33);
                    due.is("MOV " + x + " " + y, Scene.step(c, d, MOV, x, y), 1);
                    registersAreDue(c, "MOV " + x + " " + y, d, but(d, x, d + y));
                    CapMembrane n = fourBoxes(d);
                    n.give(d, y, -1);
                    due.is("MOV " + x + " " + y + " of NIL", Scene.step(n, d, MOV, x, y), 1);
                    int[] want = but(d, x, -1);
                    want[y] = -1;
                    registersAreDue(n, "MOV " + x + " " + y + " of NIL", d, want);
                    due.same("MOV", before, Due.objects(c, 33));
                }
            }
        }
    }

    // "OP_GET0 x y: R[x] = INVOKE(R[y], GET0, NIL). OP_GET1 is the same with GET1": of an empty
    // slot too, and onto the register that it reads
    private static void get() {
        for (int d = 0; d < 4; d++) {
            for (int x = 0; x < 4; x++) {
                for (int y = 0; y < 4; y++) {
                    for (int k = 0; k <= 1; k++) {
                        String when = "GET" + k + " " + x + " " + y;
                        CapMembrane c = fourBoxes(d);
                        due.is(when + " of NIL", Scene.step(c, d, GET0 + k, x, y), 1);
                        registersAreDue(c, when + " of NIL", d, but(d, x, -1));
                        due.is("hits", c.hits(d + y), 1);
                        CapMembrane n = fourBoxes(d);
                        Scene.step(n, d, SET0 + k, y, 3 - y);
                        due.is(when, Scene.step(n, d, GET0 + k, x, y), 1);
                        registersAreDue(n, when, d, but(d, x, d + 3 - y));
                        due.is("hits", n.hits(d + y), 2);
                    }
                }
            }
        }
    }

    // "OP_SET0 x y: INVOKE(R[x], SET0, R[y]), where R[y] is read before invoking. OP_SET1 likewise":
    // of NIL too, and of the box itself; no register changes.
    private static void set() {
        for (int d = 0; d < 4; d++) {
            for (int x = 0; x < 4; x++) {
                for (int y = 0; y < 4; y++) {
                    for (int k = 0; k <= 1; k++) {
                        String when = "SET" + k + " " + x + " " + y;
                        CapMembrane c = fourBoxes(d);
                        due.is(when, Scene.step(c, d, SET0 + k, x, y), 1);
                        registersAreDue(c, when, d, d, d + 1, d + 2, d + 3);
                        due.is(when + ": slot", c.slot(d + x, k), d + y);
                        due.is(when + ": the other slot", c.slot(d + x, 1 - k), -1);
                        due.is(when + ": hits", c.hits(d + x), 1);
                        c.give(d, 3 - x, -1);
                        due.is(when + " of NIL", Scene.step(c, d, SET0 + k, x, 3 - x), 1);
                        due.is(when + " of NIL: slot", c.slot(d + x, k), -1);
                    }
                }
            }
        }
    }

    // "OP_POKE x: INVOKE(R[x], POKE, NIL); y is not used": whatever R[y] holds
    private static void poke() {
        for (int x = 0; x < 4; x++) {
            for (int y = 0; y < 4; y++) {
                CapMembrane c = fourBoxes(3);
                for (int r = 0; r < 4; r++) {
                    c.give(3, r, r == x ? 3 + x : -1);
                }
                String before = Due.registers(c);
                due.is("POKE " + x + " " + y, Scene.step(c, 3, POKE, x, y), 1);
                due.same("POKE " + x + " " + y, before, Due.registers(c));
                for (int o = 0; o < 7; o++) {
                    due.is("POKE " + x + ": hits(" + o + ")", c.hits(o), o == 3 + x ? 1 : 0);
                    due.is("POKE " + x + ": slot(" + o + ", 0)", c.slot(o, 0), -1);
                    due.is("POKE " + x + ": slot(" + o + ", 1)", c.slot(o, 1), -1);
                }
                CapMembrane n = fourBoxes(3);
                n.give(3, x, -1);
                due.is("POKE " + x + " " + y + " of NIL", Scene.step(n, 3, POKE, x, y), 0);
                due.is("status(3)", n.status(3), CapMembrane.ST_NULL);
            }
        }
    }

    // "OP_DROP x: R[x] = NIL; y is not used": also if it is NIL already
    private static void drop() {
        for (int d = 0; d < 4; d++) {
            for (int x = 0; x < 4; x++) {
                for (int y = 0; y < 4; y++) {
                    CapMembrane c = fourBoxes(d);
                    String before = Due.objects(c, 33);
                    due.is("DROP " + x + " " + y, Scene.step(c, d, DROP, x, y), 1);
                    registersAreDue(c, "DROP " + x + " " + y, d, but(d, x, -1));
                    due.is("DROP again", Scene.step(c, d, DROP, x, y), 1);
                    registersAreDue(c, "DROP again", d, but(d, x, -1));
                    due.same("DROP", before, Due.objects(c, 33));
                }
            }
        }
    }

    // "If an instruction faults, its destination register is left unchanged": for each fault that
    // NEW, GET0 and GET1 can have, also where the destination is the register that is read
    private static void faultLeavesDestination() {
        for (int x = 0; x < 4; x++) {
            for (int op = GET0; op <= CapMembrane.OP_GET1; op++) {
                CapMembrane nul = fourBoxes(2);
                int y = (x + 1) % 4;
                nul.give(2, y, -1);
                faultIsDue(nul, op, x, y, CapMembrane.ST_NULL);
                CapMembrane rev = fourBoxes(2);
                rev.give(2, y, rev.newBox(1));
                rev.revoke(2);
                faultIsDue(rev, op, x, y, CapMembrane.ST_REVOKED);
                CapMembrane own = fourBoxes(2);
                own.give(2, y, 1);
                faultIsDue(own, op, x, y, CapMembrane.ST_REVOKED);
                CapMembrane same = fourBoxes(2);
                same.give(2, x, 1);
                faultIsDue(same, op, x, x, CapMembrane.ST_REVOKED);
                CapMembrane full = boxAbove(y);
                faultIsDue(full, op, x, y, CapMembrane.ST_FULL);
                CapMembrane fullSame = boxAbove(x);
                faultIsDue(fullSame, op, x, x, CapMembrane.ST_FULL);
            }
        }
    }

    /** Register y of domain 2 leads to a box of domain 1 whose slots hold what has no forwarder. */
    private static CapMembrane boxAbove(int y) {
        CapMembrane c = fourBoxes(2);
        c.give(1, 0, c.newBox(1));
        c.give(1, 1, c.newBox(1));
        Scene.step(c, 1, SET0, 0, 1);
        Scene.step(c, 1, CapMembrane.OP_SET1, 0, 1);
        c.give(2, y, c.reg(1, 0));
        Due.fillTo(c, 16);
        return c;
    }

    private static void faultIsDue(CapMembrane c, int op, int x, int y, int status) {
        String when = "op " + op + " " + x + " " + y + " with fault " + status;
        String before = Due.registers(c);
        due.is(when, Scene.step(c, 2, op, x, y), 0);
        due.is(when + ": status", c.status(2), status);
        due.same(when, before, Due.registers(c));
    }
}
