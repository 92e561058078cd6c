/** The boundary cases of the terms "Domains" and "Objects"; above each test stands the sentence. */
public final class EdgeTermsTest {
    private static final Due due = new Due("EdgeTermsTest");

    public static void main(String[] args) {
        busyIsAsTold();
        hostFromTheStart();
        domainsInOrder();
        domainExists();
        freshDomain();
        hostIsNeverRevoked();
        idsInOrder();
        idsAreNeverFreed();
        objectExists();
        newObject();
        due.end();
    }

    // The other edge tests rest on this scene.
    private static void busyIsAsTold() {
        CapMembrane c = Scene.busy();
        int[] kinds = {2, 2, 1, 1, 1, 1, 3, 3, 3, 3, 3};
        int[] homes = {0, 1, 0, 0, 1, 2, 0, 1, 1, 2, 2};
        int[] links = {1, 2, -1, -1, -1, -1, 4, 2, 5, 4, 7};
        int[] hits = {0, 0, 2, 2, 2, 2, 0, 0, 0, 0, 0};
        int[] slot0 = {-1, -1, 3, 2, 7, 9, -1, -1, -1, -1, -1};
        int[] slot1 = {-1, -1, 2, 3, 8, 5, -1, -1, -1, -1, -1};
        for (int o = 0; o < 11; o++) {
            String want = " o" + o + ":" + kinds[o] + "," + homes[o] + "," + links[o] + "," + hits[o]
                + "[-1 " + slot0[o] + " " + slot1[o] + " -1 ]";
            due.same("busy, object " + o, want, Due.object(c, o));
        }
        due.is("busy, count", Due.count(c), 11);
        due.same("busy, domains", " d0:-1,0,4,false d1:0,0,2,false d2:1,0,2,false", Due.domains(c, 3));
        int[][] regs = {{2, 3, 6, 0}, {4, 7, 8, 1}, {5, 9, 10, 5}};
        for (int d = 0; d < 3; d++) {
            for (int r = 0; r < 4; r++) {
                due.is("busy, reg(" + d + ", " + r + ")", c.reg(d, r), regs[d][r]);
            }
            due.is("busy, the rest of program " + d, c.run(d, 99), 2);
        }
        CapMembrane i = Scene.idle(13);
        for (int d = 0; d < 3; d++) {
            for (int r = 0; r < 4; r++) {
                due.is("idle, reg(" + d + ", " + r + ")", i.reg(d, r), r == 3 ? -1 : regs[d][r]);
            }
            due.is("idle, the rest of program " + d, i.run(d, 99), 0);
        }
        due.is("idle, count", Due.count(i), 13);
        for (int status : Scene.FAULTS) {
            for (int d = 0; d < 3; d++) {
                CapMembrane f = Scene.faulted(d, status);
                due.is("faulted, status", f.status(d), status);
                due.is("faulted, pc", f.pc(d), d == 0 ? 6 : 4);
                due.is("faulted, the DROP has not run", f.reg(d, 3) != -1, true);
            }
        }
    }

    // "Domain 0 (the host) exists from the start"
    private static void hostFromTheStart() {
        CapMembrane c = new CapMembrane(8, 8);
        due.is("status(0)", c.status(0), CapMembrane.ST_READY);
        due.is("emit(0, ...)", c.emit(0, CapMembrane.OP_NEW, 3, 0), true);
        due.is("run(0, 1)", c.run(0, 1), 1);
        due.is("reg(0, 3)", c.reg(0, 3), 0);
        due.is("give(0, 0, 0)", c.give(0, 0, 0), true);
        due.is("newBox(0)", c.newBox(0), 1);
    }

    // "newDomain adds domains 1, 2, 3 in that order": under every choice of parents
    private static void domainsInOrder() {
        for (int second = 0; second <= 1; second++) {
            for (int third = 0; third <= 2; third++) {
                CapMembrane c = new CapMembrane(8, 8);
                due.is("newDomain(0)", c.newDomain(0), 1);
                due.is("newDomain(" + second + ")", c.newDomain(second), 2);
                due.is("newDomain(" + third + ")", c.newDomain(third), 3);
                due.is("parent(1)", c.parent(1), 0);
                due.is("parent(2)", c.parent(2), second);
                due.is("parent(3)", c.parent(3), third);
                due.same("revoker 1", " o0:2,0,1,0[-1 -1 -1 -1 ]", Due.object(c, 0));
                due.same("revoker 2", " o1:2," + second + ",2,0[-1 -1 -1 -1 ]", Due.object(c, 1));
                due.same("revoker 3", " o2:2," + third + ",3,0[-1 -1 -1 -1 ]", Due.object(c, 2));
            }
        }
    }

    // "A domain d exists when 0 <= d < the number of domains."
    private static void domainExists() {
        CapMembrane c = new CapMembrane(32, 8);
        for (int number = 1; number <= 4; number++) {
            for (int d : Scene.andFar(-1, 0, 1, 2, 3, 4)) {
                boolean there = 0 <= d && d < number;
                String when = number + " domains, ";
                due.is(when + "status(" + d + ")", c.status(d), there ? 0 : -1);
                due.is(when + "pc(" + d + ")", c.pc(d), there ? 0 : -1);
                due.is(when + "parent(" + d + ")", c.parent(d), there ? d - 1 : -2);
                due.is(when + "run(" + d + ", 1)", c.run(d, 1), there ? 0 : -1);
                due.is(when + "give(" + d + ", 0, NIL)", c.give(d, 0, -1), there);
                due.is(when + "newBox(" + d + ")", c.newBox(d) >= 0, there);
            }
            due.is("newDomain", c.newDomain(number - 1), number < 4 ? number : -1);
        }
    }

    // "Every domain has REGS = 4 registers (each a reference, NIL at first), a program of at most P
    // instructions (empty at first), a pc (0 at first) and a status (ST_READY at first)": also if
    // the domains before it have faulted, are revoked and have full programs and registers.
    private static void freshDomain() {
        int[] statuses = {CapMembrane.ST_NULL, CapMembrane.ST_REVOKED};
        for (int status : statuses) {
            for (int parent = 0; parent <= 2; parent++) {
                CapMembrane c = Scene.faulted(2, status);
                c.revoke(1);
                c.revoke(2);
                for (int d = 0; d < 3; d++) {
                    Scene.fillProgram(c, d, CapMembrane.OP_DROP, 0);
                }
                due.is("newDomain(" + parent + ")", c.newDomain(parent), 3);
                due.same("the fresh domain", " d3:" + parent + ",0,0,false", Due.domain(c, 3));
                due.same("its registers", "-1 -1 -1 -1 -1 -1 ", Due.registers(c, 3));
                due.is("its program", c.run(3, 99), 0);
                for (int i = 0; i < 16; i++) {
                    due.is("its emit " + i, c.emit(3, CapMembrane.OP_DROP, 0, 0), true);
                }
                due.is("its emit past P", c.emit(3, CapMembrane.OP_DROP, 0, 0), false);
            }
        }
    }

    // "Domain 0 is never revoked."
    private static void hostIsNeverRevoked() {
        CapMembrane c = Scene.busyAllDomains();
        due.is("revoke(0)", c.revoke(0), false);
        for (int m = 1; m <= 3; m++) {
            c.revoke(m);
        }
        due.is("revoked(0)", c.revoked(0), false);
        due.is("newBox(0)", c.newBox(0), 12);
        due.is("give(0, 0, 12)", c.give(0, 0, 12), true);
        due.is("the host on its own box", Scene.step(c, 0, CapMembrane.OP_POKE, 0, 0), 1);
    }

    // "Object ids run from 0 to N-1. Ids are given out in increasing order starting at 0": whoever
    // makes the object
    private static void idsInOrder() {
        for (int n = 8; n <= 32; n++) {
            CapMembrane c = new CapMembrane(n, 32);
            due.is("the first, a box", c.newBox(0), 0);
            due.is("newDomain", c.newDomain(0), 1);
            due.is("the second, a revoker", c.kind(1), CapMembrane.KIND_REVOKER);
            c.give(1, 0, 0);
            due.is("the third, give's forwarder", c.reg(1, 0), 2);
            Scene.step(c, 1, CapMembrane.OP_NEW, 1, 0);
            due.is("the fourth, a box of OP_NEW", c.reg(1, 1), 3);
            Scene.step(c, 1, CapMembrane.OP_SET0, 0, 1);
            due.is("the fifth, SET0's forwarder", c.slot(0, 0), 4);
            for (int id = 5; id < n; id++) {
                due.is("then boxes", c.newBox(id % 2), id);
                due.is("count", Due.count(c), id + 1);
            }
            due.is("newBox past N-1", c.newBox(0), -1);
            due.is("newDomain past N-1", c.newDomain(0), -1);
            due.is("give past N-1", c.give(1, 0, 1), false);
            due.is("OP_NEW past N-1", Scene.step(c, 1, CapMembrane.OP_NEW, 2, 0), 0);
            due.is("count", Due.count(c), n);
        }
    }

    // "and are never freed": though nothing names them any more
    private static void idsAreNeverFreed() {
        CapMembrane c = new CapMembrane(8, 32);
        c.newDomain(0);
        for (int i = 1; i < 8; i++) {
            due.is("OP_NEW", Scene.step(c, 1, CapMembrane.OP_NEW, 0, 0), 1);
            due.is("reg(1, 0)", c.reg(1, 0), i);
            Scene.step(c, 1, CapMembrane.OP_DROP, 0, 0);
            c.give(1, 0, -1);
            due.is("count", Due.count(c), i + 1);
        }
        c.revoke(1);
        due.is("newBox(0)", c.newBox(0), -1);
        due.is("OP_NEW", Scene.step(c, 1, CapMembrane.OP_NEW, 0, 0), 0);
        due.is("status(1)", c.status(1), CapMembrane.ST_FULL);
    }

    // "an object exists when its id is in 0..count-1"
    private static void objectExists() {
        CapMembrane c = new CapMembrane(32, 8);
        for (int count = 0; count <= 32; count++) {
            for (int o : Scene.andFar(-1, 0, count - 1, count, count + 1, 31, 32)) {
                boolean there = 0 <= o && o < count;
                due.is(count + " objects, kind(" + o + ")", c.kind(o), there ? 1 : 0);
                due.is(count + " objects, home(" + o + ")", c.home(o), there ? 0 : -1);
                if (o != -1) {
                    due.is(count + " objects, give(0, 0, " + o + ")", c.give(0, 0, o), there);
                }
            }
            c.newBox(0);
        }
    }

    // "A new object has hits 0, link NIL and both slots NIL, unless stated otherwise": a box of
    // OP_NEW, a box of newBox, a forwarder made by an argument and one made by a result
    private static void newObject() {
        CapMembrane c = Scene.busy(32, 32);
        due.is("the rest of program 2", c.run(2, 1), 1);
        due.same("made by the result", " o11:3,1,3,0[-1 -1 -1 -1 ]", Due.object(c, 11));
        due.same("made by the result", " o12:3,2,11,0[-1 -1 -1 -1 ]", Due.object(c, 12));
        c.run(2, 1);
        Scene.step(c, 2, CapMembrane.OP_NEW, 1, 0);
        due.same("OP_NEW", " o13:1,2,-1,0[-1 -1 -1 -1 ]", Due.object(c, 13));
        Scene.step(c, 2, CapMembrane.OP_SET1, 2, 1);
        due.same("made by the argument", " o14:3,1,13,0[-1 -1 -1 -1 ]", Due.object(c, 14));
        due.same("made by the argument", " o15:3,0,14,0[-1 -1 -1 -1 ]", Due.object(c, 15));
        c.newBox(1);
        due.same("newBox", " o16:1,1,-1,0[-1 -1 -1 -1 ]", Due.object(c, 16));
    }
}
