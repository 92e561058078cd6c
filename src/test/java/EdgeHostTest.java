import java.util.function.Supplier;

/** The boundary cases of promises 1 to 5 and 7; above each test stands the document's sentence. */
public final class EdgeHostTest {
    private static final int NEW = CapMembrane.OP_NEW;
    private static final int DROP = CapMembrane.OP_DROP;
    private static final int[] STATUSES = {
        CapMembrane.ST_NULL, CapMembrane.ST_REVOKED, CapMembrane.ST_FULL,
    };

    private static final Due due = new Due("EdgeHostTest");

    public static void main(String[] args) {
        sizeTooSmall();
        sizeTooLarge();
        sizeInRange();
        freshState();
        newDomainWithoutParent();
        newDomainPastFour();
        newDomainInFullArena();
        newDomainTakesLastId();
        newDomainChangesNothingElse();
        newBoxWithoutDomain();
        newBoxInFullArena();
        newBoxTakesLastId();
        newBoxTouchesNoRegister();
        giveWithoutDomainOrRegister();
        giveOfNil();
        giveOfMissingObject();
        giveOfOwnObject();
        giveAcrossRevoked();
        giveAcrossOtherRevoked();
        giveInFullArena();
        giveWithLastId();
        giveInFullArenaThatMakesNothing();
        giveFromFarDomain();
        giveChangesNothingElse();
        emitWithoutDomain();
        emitOfWrongOp();
        emitOfWrongRegister();
        emitToFullProgram();
        emitInAnyStatus();
        emitChangesNothingElse();
        revokeOutOfRange();
        revokeTwice();
        revokeChangesNothingElse();
        due.end();
    }

    // Promise 1

    // "A value below the least becomes the least (any int is accepted, including negative and
    // extreme values)." Some of these are 16 if cut to 8 or 16 bits.
    private static void sizeTooSmall() {
        int[] small = {7, 6, 1, 0, -1, -8, -32, -240, -65520, Integer.MIN_VALUE, Integer.MIN_VALUE + 16};
        for (int s : small) {
            sizes(s, 16, 8, 16);
            sizes(16, s, 16, 8);
            sizes(s, s, 8, 8);
        }
    }

    // "A value above the greatest becomes the greatest (any int is accepted ...)."
    private static void sizeTooLarge() {
        int[] large = {33, 34, 64, 127, 128, 272, 65552, Integer.MAX_VALUE - 1, Integer.MAX_VALUE};
        for (int s : large) {
            sizes(s, 16, 32, 16);
            sizes(16, s, 16, 32);
            sizes(s, s, 32, 32);
        }
        sizes(Integer.MIN_VALUE, Integer.MAX_VALUE, 8, 32);
        sizes(Integer.MAX_VALUE, Integer.MIN_VALUE, 32, 8);
    }

    // "objects is clamped into 8..32 and gives N; progLen is clamped into 8..32 and gives P."
    private static void sizeInRange() {
        for (int s = 8; s <= 32; s++) {
            sizes(s, 40 - s, s, 40 - s);
        }
    }

    private static void sizes(int objects, int progLen, int n, int p) {
        String name = "new CapMembrane(" + objects + ", " + progLen + ")";
        CapMembrane c = new CapMembrane(objects, progLen);
        c.newDomain(0);
        c.newDomain(0);
        c.newDomain(0);
        for (int d = 0; d < 4; d++) {
            int held = 0;
            while (held < 99 && c.emit(d, DROP, 0, 0)) {
                held++;
            }
            due.is(name + ": P in domain " + d, held, p);
        }
        for (int i = 3; i < n; i++) {
            due.is(name + ": newBox", c.newBox(i % 4), i);
        }
        due.is(name + ": newBox past N", c.newBox(0), -1);
        due.is(name + ": N", Due.count(c), n);
    }

    // "The fresh state has only domain 0, with all registers NIL, an empty program, pc 0 and status
    // ST_READY; domain 0 is never revoked; there are no objects and no membrane is revoked."
    private static void freshState() {
        int[] sizes = {Integer.MIN_VALUE, 0, 8, 20, 32, Integer.MAX_VALUE};
        for (int s : sizes) {
            CapMembrane c = new CapMembrane(s, s);
            due.is("fresh: parent(0)", c.parent(0), -1);
            due.is("fresh: status(0)", c.status(0), CapMembrane.ST_READY);
            due.is("fresh: pc(0)", c.pc(0), 0);
            for (int d = 0; d < 4; d++) {
                due.is("fresh: revoked(" + d + ")", c.revoked(d), false);
                due.is("fresh: domain " + d + " is there", c.parent(d) != -2, d == 0);
                for (int r = 0; r < 4; r++) {
                    due.is("fresh: reg(" + d + ", " + r + ")", c.reg(d, r), -1);
                }
            }
            for (int o = 0; o < 33; o++) {
                due.is("fresh: kind(" + o + ")", c.kind(o), CapMembrane.KIND_NONE);
            }
            due.is("fresh: run(0, 99) of the empty program", c.run(0, 99), 0);
            due.is("fresh: the first id", c.newBox(0), 0);
        }
    }

    // Promise 2

    // "parent must be an existing domain, else the answer is -1. A refused call changes nothing."
    private static void newDomainWithoutParent() {
        for (int p : Scene.andFar(-1, 1, 2, 3, 4)) {
            due.idle("fresh newDomain(" + p + ")", () -> new CapMembrane(8, 8), c -> c.newDomain(p), -1);
        }
        for (int p : Scene.andFar(-1, 3, 4)) {
            due.idle("busy newDomain(" + p + ")", Scene::busy, c -> c.newDomain(p), -1);
            due.idle("busy, full newDomain(" + p + ")", Scene::busyFull, c -> c.newDomain(p), -1);
        }
    }

    // "there must be fewer than MAX_DOMAINS domains, else -1. A refused call changes nothing."
    private static void newDomainPastFour() {
        for (int p : Scene.andFar(-1, 0, 1, 2, 3, 4)) {
            due.idle("a fifth newDomain(" + p + ")", Scene::busyAllDomains, c -> c.newDomain(p), -1);
        }
        CapMembrane c = new CapMembrane(8, 8);
        due.is("newDomain", c.newDomain(0), 1);
        due.is("newDomain", c.newDomain(0), 2);
        due.is("newDomain with three domains there", c.newDomain(0), 3);
        due.is("newDomain with four domains there", c.newDomain(0), -1);
        due.is("no revoker is made for it", Due.count(c), 3);
    }

    // "count must be below N, else -1. A refused call changes nothing."
    private static void newDomainInFullArena() {
        for (int p = 0; p <= 2; p++) {
            int parent = p;
            due.idle("full newDomain(" + p + ")", Scene::busyFull, c -> c.newDomain(parent), -1);
        }
        for (int n = 8; n <= 32; n += 24) {
            int size = n;
            Supplier<CapMembrane> boxesAlone = () -> {
                CapMembrane c = new CapMembrane(size, 8);
                Due.fillTo(c, size);
                return c;
            };
            due.idle("newDomain(0), N = " + n + ", full of boxes", boxesAlone, c -> c.newDomain(0), -1);
        }
    }

    // "count must be below N": one id below N is enough, and the revoker takes it.
    private static void newDomainTakesLastId() {
        for (int n = 8; n <= 32; n += 24) {
            CapMembrane c = new CapMembrane(n, 8);
            Due.fillTo(c, n - 1);
            due.is("newDomain(0) with one id left", c.newDomain(0), 1);
            due.same("the revoker", " o" + (n - 1) + ":2,0,1,0[-1 -1 -1 -1 ]", Due.object(c, n - 1));
            due.is("newDomain(1) with none left", c.newDomain(1), -1);
            due.is("parent(2)", c.parent(2), -2);
        }
    }

    // "No other domain, register, object or revocation changes."
    private static void newDomainChangesNothingElse() {
        for (int p = 0; p <= 2; p++) {
            for (int m = 0; m <= 2; m++) {
                CapMembrane c = Scene.busyRevoked(m);
                String before = Due.domains(c, 3) + Due.registers(c) + Due.objects(c, 11);
                due.is("busy newDomain(" + p + ")", c.newDomain(p), 3);
                due.same("newDomain(" + p + ")", before,
                    Due.domains(c, 3) + Due.registers(c) + Due.objects(c, 11));
                due.same("the new domain", " d3:" + p + ",0,0,false", Due.domain(c, 3));
                due.same("its revoker", " o11:2," + p + ",3,0[-1 -1 -1 -1 ]", Due.object(c, 11));
                due.is("count", Due.count(c), 12);
                due.is("its program is empty", c.run(3, 99), 0);
            }
        }
        for (int status : STATUSES) {
            if (status != CapMembrane.ST_FULL) {
                due.is("newDomain under a faulted parent", Scene.faulted(1, status).newDomain(1), 3);
            }
        }
    }

    // Promise 3

    // "If d does not exist ..., the answer is -1 and nothing changes."
    private static void newBoxWithoutDomain() {
        for (int d : Scene.andFar(-1, 1, 2, 3, 4)) {
            due.idle("fresh newBox(" + d + ")", () -> new CapMembrane(8, 8), c -> c.newBox(d), -1);
        }
        for (int d : Scene.andFar(-1, 3, 4)) {
            due.idle("busy newBox(" + d + ")", Scene::busy, c -> c.newBox(d), -1);
            due.idle("busy, full newBox(" + d + ")", Scene::busyFull, c -> c.newBox(d), -1);
        }
        for (int d : Scene.andFar(-1, 4)) {
            due.idle("four domains newBox(" + d + ")", Scene::busyAllDomains, c -> c.newBox(d), -1);
        }
    }

    // "If ... count = N, the answer is -1 and nothing changes."
    private static void newBoxInFullArena() {
        for (int d = 0; d <= 2; d++) {
            int home = d;
            due.idle("full newBox(" + d + ")", Scene::busyFull, c -> c.newBox(home), -1);
        }
    }

    // "The answer is its id (the old count)", up to N-1.
    private static void newBoxTakesLastId() {
        for (int n = 8; n <= 32; n += 8) {
            CapMembrane c = new CapMembrane(n, 8);
            c.newDomain(0);
            Due.fillTo(c, n - 1);
            due.is("newBox(1) with one id left", c.newBox(1), n - 1);
            due.same("the last box", " o" + (n - 1) + ":1,1,-1,0[-1 -1 -1 -1 ]", Due.object(c, n - 1));
            due.is("newBox(1) with none left", c.newBox(1), -1);
            due.is("newBox(1) again", c.newBox(1), -1);
            due.is("count", Due.count(c), n);
        }
    }

    // "No register is touched."
    private static void newBoxTouchesNoRegister() {
        for (int d = 0; d <= 2; d++) {
            for (int status : STATUSES) {
                CapMembrane c = status == CapMembrane.ST_FULL ? Scene.busy() : Scene.faulted(d, status);
                int n = Due.count(c);
                String before = Due.domains(c, 4) + Due.registers(c) + Due.objects(c, n);
                due.is("newBox(" + d + ")", c.newBox(d), n);
                due.same("newBox(" + d + ")", before,
                    Due.domains(c, 4) + Due.registers(c) + Due.objects(c, n));
                due.same("the box", " o" + n + ":1," + d + ",-1,0[-1 -1 -1 -1 ]", Due.object(c, n));
            }
        }
    }

    // Promise 4

    private static void refusedGive(String when, Supplier<CapMembrane> scene, int d, int r, int obj) {
        String call = when + " give(" + d + ", " + r + ", " + obj + ")";
        due.idleIf(call, scene, c -> c.give(d, r, obj), false);
    }

    // "d must exist and r must be in 0..3, else the answer is false." This comes before the rule
    // for NIL. "A call answering false changes nothing."
    private static void giveWithoutDomainOrRegister() {
        for (int d : Scene.andFar(-1, 3, 4)) {
            for (int obj = -1; obj <= 6; obj += 3) {
                refusedGive("busy", Scene::busy, d, 0, obj);
            }
            refusedGive("busy", Scene::busy, d, 4, -1);
        }
        refusedGive("fresh", () -> new CapMembrane(8, 8), 1, 0, -1);
        refusedGive("four domains", Scene::busyAllDomains, 4, 0, -1);
        for (int r : Scene.andFar(-1, 4, 5)) {
            for (int d = 0; d <= 2; d++) {
                refusedGive("busy", Scene::busy, d, r, -1);
                refusedGive("busy", Scene::busy, d, r, Scene.BOX[d]);
            }
            refusedGive("busy", Scene::busy, 1, r, 3);
        }
    }

    // "If obj = NIL: R[r] = NIL, answer true."
    private static void giveOfNil() {
        for (int d = 0; d <= 2; d++) {
            for (int r = 0; r <= 3; r++) {
                for (int status : STATUSES) {
                    CapMembrane c = Scene.faulted(d, status);
                    c.give(d, r, Scene.BOX[d]);
                    giveOwn(c, d, r, -1);
                    giveOwn(c, d, r, -1);
                }
            }
        }
    }

    // "obj must be in 0..count-1, else the answer is false. A call answering false changes nothing."
    private static void giveOfMissingObject() {
        for (int obj : Scene.andFar(11, 12, 15, 16, 31, 32, 33)) {
            for (int d = 0; d <= 2; d++) {
                refusedGive("busy", Scene::busy, d, d, obj);
            }
        }
        for (int obj : Scene.andFar(16, 17, 31, 32)) {
            refusedGive("full", Scene::busyFull, 0, 0, obj);
        }
        for (int obj : Scene.andFar(0, 1, 7, 8)) {
            refusedGive("fresh", () -> new CapMembrane(8, 8), 0, 0, obj);
        }
    }

    // "If home(obj) = d: R[r] = obj, answer true": of every kind, with every membrane revoked and
    // in a full arena too.
    private static void giveOfOwnObject() {
        CapMembrane c = Scene.busyFull();
        c.revoke(1);
        c.revoke(2);
        for (int obj = 0; obj < 16; obj++) {
            for (int r = 0; r <= 3; r++) {
                giveOwn(c, c.home(obj), r, obj);
            }
        }
    }

    // A give that is due to load obj itself and to change no more than R[r] of d.
    private static void giveOwn(CapMembrane c, int d, int r, int obj) {
        String call = "give(" + d + ", " + r + ", " + obj + ")";
        int[] want = new int[16];
        for (int i = 0; i < 16; i++) {
            want[i] = i == d * 4 + r ? obj : c.reg(i / 4, i % 4);
        }
        String before = Due.domains(c, 4) + Due.objects(c, 33);
        due.is(call, c.give(d, r, obj), true);
        due.same(call, before, Due.domains(c, 4) + Due.objects(c, 33));
        for (int i = 0; i < 16; i++) {
            due.is(call + ", then reg(" + i / 4 + ", " + i % 4 + ")", c.reg(i / 4, i % 4), want[i]);
        }
    }

    // "if m is revoked, the answer is false": whether CARRY would make a forwarder, find one or
    // unwrap one, downward and upward. "A call answering false changes nothing."
    private static void giveAcrossRevoked() {
        int[][] over1 = {{1, 3}, {1, 2}, {1, 6}, {1, 0}, {0, 8}, {0, 4}, {0, 7}, {0, 1}};
        for (int[] g : over1) {
            refusedGive("1 is revoked,", () -> Scene.busyRevoked(1), g[0], 3, g[1]);
            due.is("busy give(" + g[0] + ", 3, " + g[1] + ")", Scene.busy().give(g[0], 3, g[1]), true);
        }
        int[][] over2 = {{2, 1}, {2, 4}, {2, 7}, {2, 8}, {1, 5}, {1, 9}, {1, 10}};
        for (int[] g : over2) {
            refusedGive("2 is revoked,", () -> Scene.busyRevoked(2), g[0], 3, g[1]);
            due.is("busy give(" + g[0] + ", 3, " + g[1] + ")", Scene.busy().give(g[0], 3, g[1]), true);
        }
    }

    // "let m = max(d, home(obj)); if m is revoked": no other membrane counts.
    private static void giveAcrossOtherRevoked() {
        CapMembrane c = Scene.busyRevoked(1);
        due.is("1 is revoked, give(2, 3, 8) over 2", c.give(2, 3, 8), true);
        due.is("reg(2, 3) is unwrapped", c.reg(2, 3), 5);
        due.is("1 is revoked, give(2, 3, 1) over 2", c.give(2, 3, 1), true);
        due.is("link(reg(2, 3))", c.link(c.reg(2, 3)), 1);
        due.is("1 is revoked, give(1, 3, 5) over 2", c.give(1, 3, 5), true);
        due.is("reg(1, 3)", c.reg(1, 3), 8);
        CapMembrane n = Scene.busyRevoked(2);
        due.is("2 is revoked, give(1, 3, 3) over 1", n.give(1, 3, 3), true);
        due.is("link(reg(1, 3))", n.link(n.reg(1, 3)), 3);
        due.is("2 is revoked, give(0, 3, 8) over 1", n.give(0, 3, 8), true);
        due.is("link(reg(0, 3))", n.link(n.reg(0, 3)), 8);
    }

    // "if CARRY(obj, home(obj), d) fails, the answer is false. A call answering false changes
    // nothing."
    private static void giveInFullArena() {
        int[][] makes = {{1, 3}, {1, 0}, {0, 8}, {0, 1}, {2, 1}, {1, 11}};
        for (int[] g : makes) {
            for (int r = 0; r <= 3; r++) {
                refusedGive("full", Scene::busyFull, g[0], r, g[1]);
            }
        }
    }

    // "CARRY may have made one new forwarder", and the last id will do.
    private static void giveWithLastId() {
        int[][] makes = {{1, 3}, {1, 0}, {0, 8}, {0, 1}, {2, 1}};
        for (int[] g : makes) {
            CapMembrane c = Scene.busy();
            Due.fillTo(c, 15);
            due.is("one id left, give(" + g[0] + ", 2, " + g[1] + ")", c.give(g[0], 2, g[1]), true);
            due.is("reg(" + g[0] + ", 2)", c.reg(g[0], 2), 15);
            due.same("the forwarder", " o15:3," + g[0] + "," + g[1] + ",0[-1 -1 -1 -1 ]", Due.object(c, 15));
            due.is("count", Due.count(c), 16);
        }
    }

    // In a full arena CARRY still answers by its rules 1 to 3.
    private static void giveInFullArenaThatMakesNothing() {
        int[][] stands = {{1, 2, 7}, {1, 6, 4}, {0, 4, 6}, {0, 7, 2}, {2, 4, 9}, {2, 7, 10}, {2, 8, 5}, {1, 5, 8}};
        for (int[] g : stands) {
            for (int r = 0; r <= 3; r++) {
                CapMembrane c = Scene.busyFull();
                String before = Due.domains(c, 4) + Due.objects(c, 33);
                due.is("full give(" + g[0] + ", " + r + ", " + g[1] + ")", c.give(g[0], r, g[1]), true);
                due.is("reg(" + g[0] + ", " + r + ")", c.reg(g[0], r), g[2]);
                due.same("give", before, Due.domains(c, 4) + Due.objects(c, 33));
            }
        }
    }

    // "In every other case, the answer is false": a grandparent, a grandchild, a sibling. "A call
    // answering false changes nothing."
    private static void giveFromFarDomain() {
        int[][] far = {{0, 5}, {0, 9}, {0, 10}, {2, 0}, {2, 2}, {2, 6}};
        for (int[] g : far) {
            refusedGive("busy", Scene::busy, g[0], 0, g[1]);
            refusedGive("full", Scene::busyFull, g[0], 0, g[1]);
            refusedGive("1 is revoked,", () -> Scene.busyRevoked(1), g[0], 0, g[1]);
        }
        int[][] sibling = {{3, 1}, {3, 4}, {3, 5}, {3, 7}, {3, 8}, {3, 9}, {3, 10}};
        for (int[] g : sibling) {
            refusedGive("four domains,", Scene::busyAllDomains, g[0], 0, g[1]);
        }
        Supplier<CapMembrane> boxIn3 = () -> {
            CapMembrane c = Scene.busyAllDomains();
            c.newBox(3);
            return c;
        };
        refusedGive("four domains,", boxIn3, 1, 0, 12);
        refusedGive("four domains,", boxIn3, 2, 0, 12);
        due.is("give(0, 0, 12) from the child", boxIn3.get().give(0, 0, 12), true);
    }

    // "This call never changes hits, slots, statuses, pcs, programs or revocations, and changes no
    // register other than R[r] of d."
    private static void giveChangesNothingElse() {
        int[][] makes = {{1, 3}, {1, 0}, {0, 8}, {0, 1}, {2, 1}};
        for (int[] g : makes) {
            for (int r = 0; r <= 3; r++) {
                CapMembrane c = Scene.busy();
                String call = "busy give(" + g[0] + ", " + r + ", " + g[1] + ")";
                int was = c.reg(g[0], r);
                String before = Due.domains(c, 4) + Due.registers(c) + Due.objects(c, 11);
                due.is(call, c.give(g[0], r, g[1]), true);
                due.is("reg(" + g[0] + ", " + r + ")", c.reg(g[0], r), 11);
                due.same("the forwarder", " o11:3," + g[0] + "," + g[1] + ",0[-1 -1 -1 -1 ]",
                    Due.object(c, 11));
                due.is("count", Due.count(c), 12);
                c.give(g[0], r, was);
                due.same(call, before, Due.domains(c, 4) + Due.registers(c) + Due.objects(c, 11));
                due.is(call + ", then the program", c.run(g[0], 99), 2);
            }
        }
    }

    // Promise 5

    private static void refusedEmit(String when, Supplier<CapMembrane> scene, int d, int op, int x, int y) {
        String call = when + " emit(" + d + ", " + op + ", " + x + ", " + y + ")";
        due.idleIf(call, scene, c -> c.emit(d, op, x, y), false);
    }

    // "It is refused (answer false, nothing changes) if d does not exist"
    private static void emitWithoutDomain() {
        for (int d : Scene.andFar(-1, 3, 4)) {
            refusedEmit("busy", Scene::busy, d, DROP, 0, 0);
            refusedEmit("busy", Scene::busy, d, NEW, 3, 3);
        }
        for (int d = 1; d <= 4; d++) {
            refusedEmit("fresh", () -> new CapMembrane(8, 8), d, NEW, 0, 0);
        }
        refusedEmit("four domains", Scene::busyAllDomains, 4, NEW, 0, 0);
    }

    // "op is not in 0..7"
    private static void emitOfWrongOp() {
        for (int op : Scene.andFar(-1, 8, 9, 16)) {
            refusedEmit("busy", Scene::busy, 0, op, 0, 0);
            refusedEmit("busy", Scene::busy, 2, op, 3, 1);
        }
    }

    // "x or y is not in 0..3", also for an op that does not use y
    private static void emitOfWrongRegister() {
        for (int r : Scene.andFar(-1, 4, 5)) {
            for (int op = 0; op <= 7; op++) {
                refusedEmit("busy", Scene::busy, 1, op, r, 0);
                refusedEmit("busy", Scene::busy, 1, op, 0, r);
            }
            refusedEmit("busy", Scene::busy, 0, DROP, r, r);
        }
    }

    // "or the program already holds P instructions": whether they have been run or not
    private static void emitToFullProgram() {
        for (int p = 8; p <= 32; p += 12) {
            for (int d = 0; d <= 2; d++) {
                for (int steps = 0; steps <= 64; steps += 16) {
                    int size = p;
                    int full = d;
                    int done = steps;
                    Supplier<CapMembrane> scene = () -> {
                        CapMembrane c = Scene.busy(16, size);
                        while (c.emit(full, CapMembrane.OP_MOV, 1, 1)) {
                            c.run(full, 0);
                        }
                        c.run(full, done);
                        return c;
                    };
                    refusedEmit("P = " + p + ", " + steps + " run,", scene, d, NEW, 0, 0);
                    CapMembrane c = scene.get();
                    c.run(d, 99);
                    due.is("pc at the end of a full program", c.pc(d), p);
                    due.is("a full program, another domain's emit", c.emit((d + 1) % 3, DROP, 0, 0), true);
                }
            }
        }
    }

    // "Appending is allowed in any status."
    private static void emitInAnyStatus() {
        for (int status : STATUSES) {
            for (int d = 0; d <= 2; d++) {
                CapMembrane c = Scene.faulted(d, status);
                due.is("the scene's status", c.status(d), status);
                String before = Due.look(c);
                int more = 0;
                while (more < 99 && c.emit(d, more % 8, 3, 3)) {
                    more++;
                }
                due.is("room in a program of 16 that holds " + (d == 0 ? 8 : 6), more, d == 0 ? 8 : 10);
                due.same("emit in status " + status, before, Due.look(c));
                due.is("run after it", c.run(d, 1), -1);
            }
        }
    }

    // "It changes no pc, status, register or object", nor any other instruction.
    private static void emitChangesNothingElse() {
        for (int op = 0; op <= 7; op++) {
            for (int d = 0; d <= 2; d++) {
                CapMembrane c = Scene.busy();
                CapMembrane twin = Scene.busy();
                String before = Due.look(c);
                due.is("emit", c.emit(d, op, 3, 3), true);
                due.same("emit", before, Due.look(c));
                for (int e = 0; e <= 2; e++) {
                    due.is("what was there before, run", c.run(e, 2), twin.run(e, 2));
                    due.same("what was there before", Due.look(twin), Due.look(c));
                }
                due.is("the new one, run", c.run(d, 9), 1);
            }
        }
    }

    // Promise 7

    // "If 1 <= m < the number of domains ... Otherwise the answer is false and nothing changes."
    private static void revokeOutOfRange() {
        for (int m : Scene.andFar(-1, 0, 3, 4)) {
            due.idleIf("busy revoke(" + m + ")", Scene::busy, c -> c.revoke(m), false);
        }
        for (int m : Scene.andFar(-1, 0, 1, 2, 3, 4)) {
            due.idleIf("fresh revoke(" + m + ")", () -> new CapMembrane(8, 8), c -> c.revoke(m), false);
        }
        for (int m : Scene.andFar(-1, 0, 4)) {
            due.idleIf("four domains revoke(" + m + ")", Scene::busyAllDomains, c -> c.revoke(m), false);
        }
        for (int m = 1; m <= 3; m++) {
            due.is("four domains revoke(" + m + ")", Scene.busyAllDomains().revoke(m), true);
        }
    }

    // "and m is not revoked ... Otherwise the answer is false and nothing changes": by the host or
    // by a revoker.
    private static void revokeTwice() {
        for (int m = 1; m <= 2; m++) {
            int membrane = m;
            due.idleIf("revoke(" + m + ") again", () -> Scene.busyRevoked(membrane),
                c -> c.revoke(membrane), false);
            Supplier<CapMembrane> byRevoker = () -> {
                CapMembrane c = Scene.busy();
                int holder = membrane - 1;
                c.run(holder, 9);
                c.give(holder, 3, holder);
                Scene.step(c, holder, CapMembrane.OP_POKE, 3, 0);
                return c;
            };
            due.is("the revoker's work", byRevoker.get().revoked(m), true);
            due.idleIf("revoke(" + m + ") after its revoker", byRevoker, c -> c.revoke(membrane), false);
        }
    }

    // "Revocation changes no object and no register; it only makes INVOKE and give refuse to cross
    // m."
    private static void revokeChangesNothingElse() {
        for (int m = 1; m <= 3; m++) {
            CapMembrane c = Scene.busyAllDomains();
            String before = Due.look(c);
            due.is("revoke(" + m + ")", c.revoke(m), true);
            due.same("revoke(" + m + ")", before, Due.look(c).replace("true", "false"));
            for (int i = 0; i <= 4; i++) {
                due.is("revoke(" + m + "), then revoked(" + i + ")", c.revoked(i), i == m);
            }
        }
        CapMembrane c = Scene.busyRevoked(1);
        due.is("revoked, the guest's program over 1", c.run(1, 9), 0);
        due.is("revoked, the guest's newBox", c.newBox(1), 11);
        due.is("revoked, the guest's own child", c.newDomain(1), 3);
        CapMembrane n = Scene.busyRevoked(2);
        due.is("2 is revoked, the program of 1 over 1", n.run(1, 9), 2);
        due.is("2 is revoked, the host's program over 1", n.run(0, 9), 2);
        due.is("2 is revoked, the program of 2 over 2", n.run(2, 9), 0);
        due.is("status(2)", n.status(2), CapMembrane.ST_REVOKED);
    }
}
