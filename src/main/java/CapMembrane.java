/**
 * A small object-capability sandbox: domains run straight-line programs over
 * shared objects, and references that cross between domains can be revoked.
 */
public final class CapMembrane {
    public static final int NIL = -1;
    public static final int MAX_DOMAINS = 4;
    public static final int REGS = 4;
    public static final int KIND_NONE = 0;
    public static final int KIND_BOX = 1;
    public static final int KIND_REVOKER = 2;
    public static final int KIND_FORWARDER = 3;
    public static final int OP_NEW = 0;
    public static final int OP_MOV = 1;
    public static final int OP_GET0 = 2;
    public static final int OP_GET1 = 3;
    public static final int OP_SET0 = 4;
    public static final int OP_SET1 = 5;
    public static final int OP_POKE = 6;
    public static final int OP_DROP = 7;
    public static final int ST_READY = 0;
    public static final int ST_NULL = 1;
    public static final int ST_REVOKED = 2;
    public static final int ST_FULL = 3;

    private static final int LEAST_SIZE = 8;
    private static final int GREATEST_SIZE = 32;
    private static final int SLOTS = 2;
    private static final int REGISTER_CELLS = MAX_DOMAINS * REGS;
    private static final int PROGRAM_CELLS = MAX_DOMAINS * GREATEST_SIZE;
    private static final int SLOT_CELLS = GREATEST_SIZE * SLOTS;
    private static final int PATH_CELLS = GREATEST_SIZE + 1;

    private static final int REFUSED = -1;
    private static final int NO_PARENT = -1;
    private static final int NO_SUCH_DOMAIN = -2;

    // Faults lie below NIL, so that one int can hold a reference or a fault.
    private static final int FAULT_NULL = NIL - ST_NULL;
    private static final int FAULT_REVOKED = NIL - ST_REVOKED;
    private static final int FAULT_FULL = NIL - ST_FULL;

    private final int capacity;
    private final int programCapacity;

    private int domains = 1;
    private final int[] parentOf = new int[MAX_DOMAINS];
    private final boolean[] isRevoked = new boolean[MAX_DOMAINS];
    private final int[] statusOf = new int[MAX_DOMAINS];
    private final int[] pcOf = new int[MAX_DOMAINS];
    private final int[] registers = new int[REGISTER_CELLS];

    private final int[] programLength = new int[MAX_DOMAINS];
    private final int[] opAt = new int[PROGRAM_CELLS];
    private final int[] xAt = new int[PROGRAM_CELLS];
    private final int[] yAt = new int[PROGRAM_CELLS];

    private int count = 0;
    private final int[] kindOf = new int[GREATEST_SIZE];
    private final int[] homeOf = new int[GREATEST_SIZE];
    private final int[] linkOf = new int[GREATEST_SIZE];
    private final int[] hitsOf = new int[GREATEST_SIZE];
    private final int[] slots = new int[SLOT_CELLS];

    // The domains of the invocation in flight: hop i leads from path[i] to path[i + 1].
    private final int[] path = new int[PATH_CELLS];

    public CapMembrane(int objects, int progLen) {
        capacity = clampSize(objects);
        programCapacity = clampSize(progLen);
        parentOf[0] = NO_PARENT;
        // No call reaches a domain that doesn't exist, so this serves later domains too.
        for (int i = 0; i < REGISTER_CELLS; i++) {
            registers[i] = NIL;
        }
    }

    public int newDomain(int parent) {
        if (!domainExists(parent) || domains >= MAX_DOMAINS || count >= capacity) {
            return REFUSED;
        }
        int child = domains;
        parentOf[child] = parent;
        domains++;
        makeObject(KIND_REVOKER, parent, child);
        return child;
    }

    public int newBox(int d) {
        if (!domainExists(d)) {
            return REFUSED;
        }
        int box = makeObject(KIND_BOX, d, NIL);
        return isFault(box) ? REFUSED : box;
    }

    public boolean give(int d, int r, int obj) {
        if (!domainExists(d) || !isRegister(r)) {
            return false;
        }
        int loaded = NIL;
        if (obj != NIL) {
            if (!objectExists(obj)) {
                return false;
            }
            loaded = bring(obj, d);
        }
        if (isFault(loaded)) {
            return false;
        }
        registers[d * REGS + r] = loaded;
        return true;
    }

    public boolean emit(int d, int op, int x, int y) {
        if (!domainExists(d) || op < OP_NEW || op > OP_DROP) {
            return false;
        }
        if (!isRegister(x) || !isRegister(y) || programLength[d] >= programCapacity) {
            return false;
        }
        int at = d * GREATEST_SIZE + programLength[d];
        opAt[at] = op;
        xAt[at] = x;
        yAt[at] = y;
        programLength[d]++;
        return true;
    }

    public int run(int d, int steps) {
        if (!domainExists(d) || statusOf[d] != ST_READY) {
            return REFUSED;
        }
        int done = 0;
        while (done < steps && pcOf[d] < programLength[d]) {
            int at = d * GREATEST_SIZE + pcOf[d];
            int outcome = execute(d, opAt[at], xAt[at], yAt[at]);
            if (isFault(outcome)) {
                statusOf[d] = NIL - outcome;
                break;
            }
            pcOf[d]++;
            done++;
        }
        return done;
    }

    public boolean revoke(int m) {
        if (!membraneExists(m) || isRevoked[m]) {
            return false;
        }
        isRevoked[m] = true;
        return true;
    }

    public int reg(int d, int r) {
        return domainExists(d) && isRegister(r) ? registers[d * REGS + r] : NIL;
    }

    public int slot(int obj, int k) {
        if (!objectExists(obj) || kindOf[obj] != KIND_BOX || k < 0 || k >= SLOTS) {
            return NIL;
        }
        return slots[obj * SLOTS + k];
    }

    public int kind(int obj) {
        return objectExists(obj) ? kindOf[obj] : KIND_NONE;
    }

    public int home(int obj) {
        return objectExists(obj) ? homeOf[obj] : -1;
    }

    public int link(int obj) {
        return objectExists(obj) ? linkOf[obj] : NIL;
    }

    public int hits(int obj) {
        return objectExists(obj) ? hitsOf[obj] : 0;
    }

    public int status(int d) {
        return domainExists(d) ? statusOf[d] : -1;
    }

    public int pc(int d) {
        return domainExists(d) ? pcOf[d] : -1;
    }

    public int parent(int d) {
        return domainExists(d) ? parentOf[d] : NO_SUCH_DOMAIN;
    }

    public boolean revoked(int m) {
        return membraneExists(m) && isRevoked[m];
    }

    private static int clampSize(int size) {
        if (size < LEAST_SIZE) {
            return LEAST_SIZE;
        }
        return size > GREATEST_SIZE ? GREATEST_SIZE : size;
    }

    private static boolean isRegister(int r) {
        return r >= 0 && r < REGS;
    }

    private static boolean isFault(int outcome) {
        return outcome < NIL;
    }

    private boolean domainExists(int d) {
        return d >= 0 && d < domains;
    }

    private boolean membraneExists(int m) {
        return m >= 1 && m < domains;
    }

    private boolean objectExists(int obj) {
        return obj >= 0 && obj < count;
    }

    private boolean areAdjacent(int a, int b) {
        return parentOf[a] == b || parentOf[b] == a;
    }

    // A child has a larger id than its parent, and the membrane bears the child's id.
    private static int membraneBetween(int a, int b) {
        return a > b ? a : b;
    }

    private int makeObject(int kind, int home, int link) {
        if (count >= capacity) {
            return FAULT_FULL;
        }
        int id = count;
        kindOf[id] = kind;
        homeOf[id] = home;
        linkOf[id] = link;
        hitsOf[id] = 0;
        slots[id * SLOTS] = NIL;
        slots[id * SLOTS + 1] = NIL;
        count++;
        return id;
    }

    /** The reference that give loads into domain d for obj, or a fault (give tells none apart). */
    private int bring(int obj, int d) {
        int from = homeOf[obj];
        if (from == d) {
            return obj;
        }
        if (!areAdjacent(from, d) || isRevoked[membraneBetween(from, d)]) {
            return FAULT_REVOKED;
        }
        return carry(obj, from, d);
    }

    /** CARRY of the document: the reference that stands for ref in domain b, or FAULT_FULL. */
    private int carry(int ref, int a, int b) {
        if (ref == NIL) {
            return NIL;
        }
        if (kindOf[ref] == KIND_FORWARDER && homeOf[ref] == a && homeOf[linkOf[ref]] == b) {
            return linkOf[ref];
        }
        int known = findForwarder(ref, b);
        return known != NIL ? known : makeObject(KIND_FORWARDER, b, ref);
    }

    private int findForwarder(int target, int home) {
        for (int f = 0; f < count; f++) {
            // A revoker's link is a membrane, which may equal an object's id.
            if (kindOf[f] == KIND_FORWARDER && homeOf[f] == home && linkOf[f] == target) {
                return f;
            }
        }
        return NIL;
    }

    /** Runs one instruction; the answer is a fault or any other value. */
    private int execute(int d, int op, int x, int y) {
        int rx = d * REGS + x;
        int ry = d * REGS + y;
        int result = NIL;
        switch (op) {
            case OP_NEW:
                result = makeObject(KIND_BOX, d, NIL);
                break;
            case OP_MOV:
                result = registers[ry];
                break;
            case OP_GET0:
            case OP_GET1:
                result = invoke(d, registers[ry], op, NIL);
                break;
            case OP_SET0:
            case OP_SET1:
                return invoke(d, registers[rx], op, registers[ry]);
            case OP_POKE:
                return invoke(d, registers[rx], op, NIL);
            default:
                break;
        }
        if (!isFault(result)) {
            registers[rx] = result;
        }
        return result;
    }

    /** INVOKE of the document: the result as domain d sees it, or a fault. */
    private int invoke(int d, int ref, int op, int given) {
        if (ref == NIL) {
            return FAULT_NULL;
        }
        int cur = ref;
        int arg = given;
        int hops = 0;
        path[0] = d;
        // A target is older than its forwarder, so a chain is shorter than the arena.
        while (hops < GREATEST_SIZE && kindOf[cur] == KIND_FORWARDER) {
            int target = linkOf[cur];
            int far = homeOf[target];
            if (isRevoked[membraneBetween(homeOf[cur], far)]) {
                return FAULT_REVOKED;
            }
            hitsOf[cur]++;
            arg = carry(arg, path[hops], far);
            if (isFault(arg)) {
                return arg;
            }
            hops++;
            path[hops] = far;
            cur = target;
        }
        int result = act(cur, op, arg);
        return carryBack(result, hops);
    }

    /** What a box or a revoker does when an invocation reaches it. */
    private int act(int obj, int op, int arg) {
        hitsOf[obj]++;
        if (kindOf[obj] == KIND_REVOKER) {
            isRevoked[linkOf[obj]] = true;
            return NIL;
        }
        switch (op) {
            case OP_GET0:
                return slots[obj * SLOTS];
            case OP_GET1:
                return slots[obj * SLOTS + 1];
            case OP_SET0:
                slots[obj * SLOTS] = arg;
                return NIL;
            case OP_SET1:
                slots[obj * SLOTS + 1] = arg;
                return NIL;
            default:
                return NIL;
        }
    }

    private int carryBack(int result, int hops) {
        int res = result;
        for (int i = hops - 1; i >= 0; i--) {
            // The invocation itself may have revoked a membrane that it crossed.
            if (isRevoked[membraneBetween(path[i], path[i + 1])]) {
                return FAULT_REVOKED;
            }
            res = carry(res, path[i + 1], path[i]);
            if (isFault(res)) {
                return res;
            }
        }
        return res;
    }
}
