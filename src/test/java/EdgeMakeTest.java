import java.util.function.Supplier;

/** The boundary cases of promises 1 to 3; above each test stands the document's sentence. */
public final class EdgeMakeTest {
    private static final int DROP = CapMembrane.OP_DROP;

    private static final Due due = new Due("EdgeMakeTest");

    public static void main(String[] args) {
        sizeTooSmall();
        sizeTooLarge();
        sizeInRange();
        freshState();
        newDomainWithoutParent();
        newDomainPastFour();
        newDomainInFullArena();
        newDomainTakesLastId();
        newDomainChangesNothingElse();
        newBoxWithoutDomain();
        newBoxInFullArena();
        newBoxTakesLastId();
        newBoxTouchesNoRegister();
        due.end();
    }

    // Promise 1

    // "A value below the least becomes the least (any int is accepted, including negative and
    // extreme values)." Some of these are 16 if cut to 8 or 16 bits.
    private static void sizeTooSmall() {
        int[] small = {7, 6, 1, 0, -1, -8, -32, -240, -65520, Integer.MIN_VALUE, Integer.MIN_VALUE + 16};
        for (int s : small) {
            sizes(s, 16, 8, 16);
            sizes(16, s, 16, 8);
            sizes(s, s, 8, 8);
        }
    }

    // "A value above the greatest becomes the greatest (any int is accepted ...)."
    private static void sizeTooLarge() {
        int[] large = {33, 34, 64, 127, 128, 272, 65552, Integer.MAX_VALUE - 1, Integer.MAX_VALUE};
        for (int s : large) {
            sizes(s, 16, 32, 16);
            sizes(16, s, 16, 32);
            sizes(s, s, 32, 32);
        }
        sizes(Integer.MIN_VALUE, Integer.MAX_VALUE, 8, 32);
        sizes(Integer.MAX_VALUE, Integer.MIN_VALUE, 32, 8);
    }

    // "objects is clamped into 8..32 and gives N; progLen is clamped into 8..32 and gives P."
    private static void sizeInRange() {
        for (int s = 8; s <= 32; s++) {
            sizes(s, 40 - s, s, 40 - s);
        }
    }

    private static void sizes(int objects, int progLen, int n, int p) {
        String name = "new CapMembrane(" + objects + ", " + progLen + ")";
        CapMembrane c = new CapMembrane(objects, progLen);
        c.newDomain(0);
        c.newDomain(0);
        c.newDomain(0);
        for (int d = 0; d < 4; d++) {
            int held = 0;
            while (held < 99 && c.emit(d, DROP, 0, 0)) {
                held++;
            }
            due.is(name + ": P in domain " + d, held, p);
        }
        for (int i = 3; i < n; i++) {
            due.is(name + ": newBox", c.newBox(i % 4), i);
        }
        due.is(name + ": newBox past N", c.newBox(0), -1);
        due.is(name + ": N", Due.count(c), n);
    }

    // "The fresh state has only domain 0, with all registers NIL, an empty program, pc 0 and status
    // ST_READY; domain 0 is never revoked; there are no objects and no membrane is revoked."
    private static void freshState() {
        int[] sizes = {Integer.MIN_VALUE, 0, 8, 20, 32, Integer.MAX_VALUE};
        for (int s : sizes) {
            CapMembrane c = new CapMembrane(s, s);
            due.is("fresh: parent(0)", c.parent(0), -1);
            due.is("fresh: status(0)", c.status(0), CapMembrane.ST_READY);
            due.is("fresh: pc(0)", c.pc(0), 0);
            for (int d = 0; d < 4; d++) {
                due.is("fresh: revoked(" + d + ")", c.revoked(d), false);
                due.is("fresh: domain " + d + " is there", c.parent(d) != -2, d == 0);
                for (int r = 0; r < 4; r++) {
                    due.is("fresh: reg(" + d + ", " + r + ")", c.reg(d, r), -1);
                }
            }
            for (int o = 0; o < 33; o++) {
                due.is("fresh: kind(" + o + ")", c.kind(o), CapMembrane.KIND_NONE);
            }
            due.is("fresh: run(0, 99) of the empty program", c.run(0, 99), 0);
            due.is("fresh: the first id", c.newBox(0), 0);
        }
    }

    // Promise 2

    // "parent must be an existing domain, else the answer is -1. A refused call changes nothing."
    private static void newDomainWithoutParent() {
        for (int p : Scene.andFar(-1, 1, 2, 3, 4)) {
            due.idle("fresh newDomain(" + p + ")", () -> new CapMembrane(8, 8), c -> c.newDomain(p), -1);
        }
        for (int p : Scene.andFar(-1, 3, 4)) {
            due.idle("busy newDomain(" + p + ")", Scene::busy, c -> c.newDomain(p), -1);
            due.idle("busy, full newDomain(" + p + ")", Scene::busyFull, c -> c.newDomain(p), -1);
        }
    }

    // "there must be fewer than MAX_DOMAINS domains, else -1. A refused call changes nothing."
    private static void newDomainPastFour() {
        for (int p : Scene.andFar(-1, 0, 1, 2, 3, 4)) {
            due.idle("a fifth newDomain(" + p + ")", Scene::busyAllDomains, c -> c.newDomain(p), -1);
        }
        CapMembrane c = new CapMembrane(8, 8);
        due.is("newDomain", c.newDomain(0), 1);
        due.is("newDomain", c.newDomain(0), 2);
        due.is("newDomain with three domains there", c.newDomain(0), 3);
        due.is("newDomain with four domains there", c.newDomain(0), -1);
        due.is("no revoker is made for it", Due.count(c), 3);
    }

    // "count must be below N, else -1. A refused call changes nothing."
    private static void newDomainInFullArena() {
        for (int p = 0; p <= 2; p++) {
            int parent = p;
            due.idle("full newDomain(" + p + ")", Scene::busyFull, c -> c.newDomain(parent), -1);
        }
        for (int n = 8; n <= 32; n += 24) {
            int size = n;
            Supplier<CapMembrane> boxesAlone = () -> {
                CapMembrane c = new CapMembrane(size, 8);
                Due.fillTo(c, size);
                return c;
            };
            due.idle("newDomain(0), N = " + n + ", full of boxes", boxesAlone, c -> c.newDomain(0), -1);
        }
    }

    // "count must be below N": one id below N is enough, and the revoker takes it.
    private static void newDomainTakesLastId() {
        for (int n = 8; n <= 32; n += 24) {
            CapMembrane c = new CapMembrane(n, 8);
            Due.fillTo(c, n - 1);
            due.is("newDomain(0) with one id left", c.newDomain(0), 1);
            due.same("the revoker", " o" + (n - 1) + ":2,0,1,0[-1 -1 -1 -1 ]", Due.object(c, n - 1));
            due.is("newDomain(1) with none left", c.newDomain(1), -1);
            due.is("parent(2)", c.parent(2), -2);
        }
    }

    // "No other domain, register, object or revocation changes."
    private static void newDomainChangesNothingElse() {
        for (int p = 0; p <= 2; p++) {
            for (int m = 0; m <= 2; m++) {
                CapMembrane c = Scene.busyRevoked(m);
                String before = Due.domains(c, 3) + Due.registers(c) + Due.objects(c, 11);
                due.is("busy newDomain(" + p + ")", c.newDomain(p), 3);
                due.same("newDomain(" + p + ")", before,
                    Due.domains(c, 3) + Due.registers(c) + Due.objects(c, 11));
                due.same("the new domain", " d3:" + p + ",0,0,false", Due.domain(c, 3));
                due.same("its revoker", " o11:2," + p + ",3,0[-1 -1 -1 -1 ]", Due.object(c, 11));
                due.is("count", Due.count(c), 12);
                due.is("its program is empty", c.run(3, 99), 0);
            }
        }
        for (int status = CapMembrane.ST_NULL; status <= CapMembrane.ST_REVOKED; status++) {
            due.is("newDomain under a faulted parent", Scene.faulted(1, status).newDomain(1), 3);
        }
    }

    // Promise 3

    // "If d does not exist ..., the answer is -1 and nothing changes."
    private static void newBoxWithoutDomain() {
        for (int d : Scene.andFar(-1, 1, 2, 3, 4)) {
            due.idle("fresh newBox(" + d + ")", () -> new CapMembrane(8, 8), c -> c.newBox(d), -1);
        }
        for (int d : Scene.andFar(-1, 3, 4)) {
            due.idle("busy newBox(" + d + ")", Scene::busy, c -> c.newBox(d), -1);
            due.idle("busy, full newBox(" + d + ")", Scene::busyFull, c -> c.newBox(d), -1);
        }
        for (int d : Scene.andFar(-1, 4)) {
            due.idle("four domains newBox(" + d + ")", Scene::busyAllDomains, c -> c.newBox(d), -1);
        }
    }

    // "If ... count = N, the answer is -1 and nothing changes."
    private static void newBoxInFullArena() {
        for (int d = 0; d <= 2; d++) {
            int home = d;
            due.idle("full newBox(" + d + ")", Scene::busyFull, c -> c.newBox(home), -1);
        }
    }

    // "The answer is its id (the old count)", up to N-1.
    private static void newBoxTakesLastId() {
        for (int n = 8; n <= 32; n += 8) {
            CapMembrane c = new CapMembrane(n, 8);
            c.newDomain(0);
            Due.fillTo(c, n - 1);
            due.is("newBox(1) with one id left", c.newBox(1), n - 1);
            due.same("the last box", " o" + (n - 1) + ":1,1,-1,0[-1 -1 -1 -1 ]", Due.object(c, n - 1));
            due.is("newBox(1) with none left", c.newBox(1), -1);
            due.is("newBox(1) again", c.newBox(1), -1);
            due.is("count", Due.count(c), n);
        }
    }

    // "No register is touched."
    private static void newBoxTouchesNoRegister() {
        for (int d = 0; d <= 2; d++) {
            for (int status = CapMembrane.ST_READY; status <= CapMembrane.ST_REVOKED; status++) {
                CapMembrane c = status == CapMembrane.ST_READY ? Scene.busy() : Scene.faulted(d, status);
                int n = Due.count(c);
                String before = Due.domains(c, 4) + Due.registers(c) + Due.objects(c, n);
                due.is("newBox(" + d + ")", c.newBox(d), n);
                due.same("newBox(" + d + ")", before,
                    Due.domains(c, 4) + Due.registers(c) + Due.objects(c, n));
                due.same("the box", " o" + n + ":1," + d + ",-1,0[-1 -1 -1 -1 ]", Due.object(c, n));
            }
        }
    }
}
