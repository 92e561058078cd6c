import java.util.List;
import java.util.function.IntBinaryOperator;
import java.util.function.Supplier;

/** The boundary cases of promises 8 to 17; above each test stands the document's sentence. */
public final class EdgeGetterTest {
    private static final Due due = new Due("EdgeGetterTest");

    private static final List<Supplier<CapMembrane>> SCENES = List.of(
        () -> new CapMembrane(8, 8), Scene::busy, Scene::busyFull, Scene::busyAllDomains,
        () -> Scene.busyRevoked(1), () -> Scene.busyRevoked(2),
        () -> Scene.faulted(0, CapMembrane.ST_NULL), () -> Scene.faulted(1, CapMembrane.ST_REVOKED),
        () -> Scene.faulted(2, CapMembrane.ST_FULL));

    public static void main(String[] args) {
        for (Supplier<CapMembrane> scene : SCENES) {
            CapMembrane c = scene.get();
            int domains = 0;
            while (domains < 4 && c.parent(domains) != -2) {
                domains++;
            }
            reg(c, domains);
            slot(c);
            objectGetters(c);
            domainGetters(c, domains);
            changesNothing(scene);
        }
        hostHasNoParent();
        slotOfNoBox();
        linkOfEachKind();
        hitsOfEachKind();
        revokedOfEach();
        due.end();
    }

    /** All pairs of two rows of numbers that are near an edge or far out. */
    private static void pairs(int[] first, int[] second, IntBinaryOperator look) {
        for (int a : first) {
            for (int b : second) {
                look.applyAsInt(a, b);
            }
        }
    }

    // "reg(d, r) answers register r of domain d; NIL if d does not exist or r is not in 0..3."
    private static void reg(CapMembrane c, int domains) {
        pairs(Scene.andFar(-1, 0, 1, 2, 3, 4), Scene.andFar(-4, -1, 0, 1, 2, 3, 4, 5, 7, 8), (d, r) -> {
            boolean there = 0 <= d && d < domains && 0 <= r && r <= 3;
            if (!there) {
                due.is("reg(" + d + ", " + r + ")", c.reg(d, r), -1);
            } else {
                int was = c.reg(d, r);
                c.give(d, r, -1);
                due.is("after give of NIL, reg(" + d + ", " + r + ")", c.reg(d, r), -1);
                c.give(d, r, was);
                due.is("reg(" + d + ", " + r + ")", c.reg(d, r), was);
            }
            return 0;
        });
    }

    // "slot(obj, k) answers slot k of obj if obj is an existing BOX and k is 0 or 1; NIL otherwise
    // (including for revokers, forwarders and missing ids)."
    private static void slot(CapMembrane c) {
        int n = Due.count(c);
        int[] objects = new int[40];
        for (int i = 0; i < 40; i++) {
            objects[i] = i - 3;
        }
        pairs(Scene.andFar(objects), Scene.andFar(-1, 0, 1, 2, 3), (o, k) -> {
            boolean box = 0 <= o && o < n && c.kind(o) == CapMembrane.KIND_BOX;
            if (!box || k != 0 && k != 1) {
                due.is("slot(" + o + ", " + k + ")", c.slot(o, k), -1);
            }
            return 0;
        });
    }

    // "KIND_NONE for any obj not in 0..count-1", "-1 if obj does not exist", "NIL for ... a missing
    // obj", "It answers 0 if obj does not exist."
    private static void objectGetters(CapMembrane c) {
        int n = 0;
        while (n < 32 && c.home(n) != -1) {
            due.is("kind(" + n + ") of an object", c.kind(n) >= 1 && c.kind(n) <= 3, true);
            n++;
        }
        due.is("count", Due.count(c), n);
        for (int o : Scene.andFar(-1, n, n + 1, 15, 16, 31, 32, 33)) {
            if (o < 0 || o >= n) {
                due.is("kind(" + o + ")", c.kind(o), CapMembrane.KIND_NONE);
                due.is("home(" + o + ")", c.home(o), -1);
                due.is("link(" + o + ")", c.link(o), -1);
                due.is("hits(" + o + ")", c.hits(o), 0);
                due.is("slot(" + o + ", 0)", c.slot(o, 0), -1);
                due.is("slot(" + o + ", 1)", c.slot(o, 1), -1);
            }
        }
    }

    // "status(d) ...; -1 if d does not exist", "pc(d) ...; -1 if d does not exist", "parent(d) ...
    // -2 if d does not exist", "revoked(m) ... is false for m = 0 and for any m out of that range"
    private static void domainGetters(CapMembrane c, int domains) {
        for (int d : Scene.andFar(-1, 0, 1, 2, 3, 4, 5)) {
            boolean there = 0 <= d && d < domains;
            if (!there) {
                due.is("status(" + d + ")", c.status(d), -1);
                due.is("pc(" + d + ")", c.pc(d), -1);
                due.is("parent(" + d + ")", c.parent(d), -2);
            }
            if (!there || d == 0) {
                due.is("revoked(" + d + ")", c.revoked(d), false);
            }
        }
    }

    // "Changes nothing": of every getter, in range and out of it
    private static void changesNothing(Supplier<CapMembrane> scene) {
        int[] some = Scene.andFar(-1, 0, 1, 2, 3, 4, 5, 7, 8, 10, 11, 15, 16, 31, 32);
        due.idle("reg", scene, c -> all(some, (a, b) -> c.reg(a, b)), 0);
        due.idle("slot", scene, c -> all(some, (a, b) -> c.slot(a, b)), 0);
        due.idle("kind", scene, c -> all(some, (a, b) -> c.kind(a)), 0);
        due.idle("home", scene, c -> all(some, (a, b) -> c.home(a)), 0);
        due.idle("link", scene, c -> all(some, (a, b) -> c.link(a)), 0);
        due.idle("hits", scene, c -> all(some, (a, b) -> c.hits(a)), 0);
        due.idle("status", scene, c -> all(some, (a, b) -> c.status(a)), 0);
        due.idle("pc", scene, c -> all(some, (a, b) -> c.pc(a)), 0);
        due.idle("parent", scene, c -> all(some, (a, b) -> c.parent(a)), 0);
        due.idle("revoked", scene, c -> all(some, (a, b) -> c.revoked(a) ? 1 : 0), 0);
    }

    private static int all(int[] some, IntBinaryOperator getter) {
        pairs(some, some, getter);
        return 0;
    }

    // "parent(d) answers the parent of domain d: -1 for d = 0"
    private static void hostHasNoParent() {
        for (Supplier<CapMembrane> scene : SCENES) {
            due.is("parent(0)", scene.get().parent(0), -1);
        }
        CapMembrane c = Scene.busyAllDomains();
        due.is("parent(1)", c.parent(1), 0);
        due.is("parent(2)", c.parent(2), 1);
        due.is("parent(3)", c.parent(3), 0);
    }

    // "NIL otherwise (including for revokers, forwarders ...)": though a SET went to or through them
    private static void slotOfNoBox() {
        CapMembrane c = Scene.busy(32, 32);
        c.run(0, 9);
        c.run(1, 9);
        Scene.step(c, 0, CapMembrane.OP_SET0, 2, 0);
        Scene.step(c, 0, CapMembrane.OP_SET1, 2, 0);
        Scene.step(c, 0, CapMembrane.OP_SET0, 3, 0);
        Scene.step(c, 0, CapMembrane.OP_SET1, 3, 0);
        due.is("hits(6), a forwarder", c.hits(6), 3);
        due.is("hits(0), a revoker", c.hits(0), 2);
        for (int o = 0; o < Due.count(c); o++) {
            for (int k = 0; k <= 1; k++) {
                if (c.kind(o) != CapMembrane.KIND_BOX) {
                    due.is("slot(" + o + ", " + k + ")", c.slot(o, k), -1);
                }
            }
        }
        due.is("slot(4, 0), the box behind it", c.slot(4, 0), 7);
        due.is("slot(4, 1), the box behind it", c.slot(4, 1), 7);
    }

    // "link(obj) answers the target of a FORWARDER, or the membrane of a REVOKER; NIL for a BOX":
    // also for a box with full slots, a revoked membrane and a used revoker
    private static void linkOfEachKind() {
        CapMembrane c = Scene.busyRevoked(1);
        int[] links = {1, 2, -1, -1, -1, -1, 4, 2, 5, 4, 7};
        c.run(0, 1);
        c.give(0, 2, 0);
        c.run(0, 1);
        for (int o = 0; o < 11; o++) {
            due.is("link(" + o + ")", c.link(o), links[o]);
        }
    }

    // "hits(obj) answers the hit counter of obj", up to the most that four programs can make
    private static void hitsOfEachKind() {
        CapMembrane c = new CapMembrane(32, 32);
        c.newDomain(0);
        c.newDomain(0);
        c.newDomain(2);
        c.newBox(0);
        c.give(0, 0, 3);
        c.give(1, 0, 3);
        c.give(2, 0, 3);
        c.give(3, 0, c.reg(2, 0));
        for (int d = 0; d < 4; d++) {
            for (int i = 0; i < 32; i++) {
                Scene.step(c, d, CapMembrane.OP_POKE, 0, 0);
            }
        }
        due.is("hits(3), four programs' box", c.hits(3), 128);
        due.is("hits(4), domain 1's forwarder", c.hits(4), 32);
        due.is("hits(5), the forwarder of 2 and 3", c.hits(5), 64);
        due.is("hits(6), domain 3's forwarder", c.hits(6), 32);
        due.is("hits(0), a revoker that no one used", c.hits(0), 0);
    }

    // "revoked(m) answers true exactly when 1 <= m < the number of domains and membrane m is revoked"
    private static void revokedOfEach() {
        for (int set = 0; set < 8; set++) {
            CapMembrane c = Scene.busyAllDomains();
            for (int m = 1; m <= 3; m++) {
                if ((set >> m - 1 & 1) == 1) {
                    due.is("revoke(" + m + ")", c.revoke(m), true);
                }
            }
            for (int m : Scene.andFar(-1, 0, 1, 2, 3, 4)) {
                boolean want = m >= 1 && m <= 3 && (set >> m - 1 & 1) == 1;
                due.is("revoked(" + m + ")", c.revoked(m), want);
            }
        }
    }
}
