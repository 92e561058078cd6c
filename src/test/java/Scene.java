import java.util.ArrayList;
import java.util.List;

/** States from which the edge tests start, and the numbers that they try. */
final class Scene {
    /**
     * Out of every range of the document. Some would come back into range if a product with
     * 2, 4 or 32 wrapped around, or if the number were cut to 8 or 16 bits.
     */
    static final int[] FAR = {
        -2, -3, -8, -32, -252, -254, -255, -256, -65532, -65534, -65536, Integer.MIN_VALUE,
        Integer.MIN_VALUE + 1, Integer.MIN_VALUE + 2, Integer.MIN_VALUE + 4, 40, 64, 128, 255, 256,
        257, 258, 260, 65535, 65536, 65537, 65538, 65540, 1 << 27, (1 << 27) + 1, 1 << 29, 1 << 30,
        (1 << 30) + 1, (1 << 30) + 2, (1 << 30) + 4, -(1 << 30), Integer.MAX_VALUE - 1,
        Integer.MAX_VALUE,
    };

    static final int[] FAULTS = {
        CapMembrane.ST_NULL, CapMembrane.ST_REVOKED, CapMembrane.ST_FULL,
    };

    static final int[] INVOKING = {
        CapMembrane.OP_GET0, CapMembrane.OP_GET1, CapMembrane.OP_SET0, CapMembrane.OP_SET1,
        CapMembrane.OP_POKE,
    };

    /** In busy: a box of each domain. */
    static final int[] BOX = {2, 4, 5};

    private Scene() {
    }

    /** The numbers given, then all of FAR. */
    static int[] andFar(int... near) {
        int[] all = new int[near.length + FAR.length];
        System.arraycopy(near, 0, all, 0, near.length);
        System.arraycopy(FAR, 0, all, near.length, FAR.length);
        return all;
    }

    static boolean isGet(int op) {
        return op == CapMembrane.OP_GET0 || op == CapMembrane.OP_GET1;
    }

    static boolean isSet(int op) {
        return op == CapMembrane.OP_SET0 || op == CapMembrane.OP_SET1;
    }

    /** Appends one instruction to d and runs it. */
    static int step(CapMembrane c, int d, int op, int x, int y) {
        return c.emit(d, op, x, y) ? c.run(d, 1) : Integer.MIN_VALUE;
    }

    /** One invocation of what register ref holds; other is where a GET goes and a SET's argument. */
    static int invoke(CapMembrane c, int d, int op, int ref, int other) {
        return isGet(op) ? step(c, d, op, other, ref) : step(c, d, op, ref, other);
    }

    /**
     * Domains 0 > 1 > 2 with 11 objects: revokers 0 and 1, host boxes 2 and 3, boxes 4 of domain 1
     * and 5 of domain 2, and the forwarders 6 (home 0, link 4), 7 (home 1, link 2), 8 (home 1,
     * link 5), 9 (home 2, link 4) and 10 (home 2, link 7). No register and no slot is NIL, so that
     * a wrong index shows, and every domain has instructions that are still to run.
     */
    static CapMembrane busy(int objects, int progLen) {
        CapMembrane c = new CapMembrane(objects, progLen);
        c.newDomain(0);
        c.newDomain(1);
        c.newBox(0);
        c.newBox(0);
        c.newBox(1);
        c.newBox(2);
        int[][] given = {
            {0, 0, 2}, {0, 1, 3}, {0, 2, 4}, {0, 3, 0}, {1, 0, 4}, {1, 1, 2}, {1, 2, 5}, {1, 3, 1},
            {2, 0, 5}, {2, 1, 4}, {2, 2, 7}, {2, 3, 5},
        };
        for (int[] g : given) {
            c.give(g[0], g[1], g[2]);
        }
        c.emit(0, CapMembrane.OP_SET0, 0, 1);
        c.emit(0, CapMembrane.OP_SET1, 0, 0);
        c.emit(0, CapMembrane.OP_SET0, 1, 0);
        c.emit(0, CapMembrane.OP_SET1, 1, 1);
        c.run(0, 4);
        c.emit(1, CapMembrane.OP_SET0, 0, 1);
        c.emit(1, CapMembrane.OP_SET1, 0, 2);
        c.run(1, 2);
        c.emit(2, CapMembrane.OP_SET0, 0, 1);
        c.emit(2, CapMembrane.OP_SET1, 0, 0);
        c.run(2, 2);
        c.emit(0, CapMembrane.OP_GET0, 1, 0);
        c.emit(0, CapMembrane.OP_POKE, 2, 0);
        c.emit(1, CapMembrane.OP_GET1, 0, 1);
        c.emit(1, CapMembrane.OP_MOV, 3, 2);
        c.emit(2, CapMembrane.OP_GET0, 3, 2);
        c.emit(2, CapMembrane.OP_DROP, 1, 0);
        return c;
    }

    static CapMembrane busy() {
        return busy(16, 8);
    }

    /**
     * Busy with all programs run to their end: 13 objects, 11 (home 1, link 3) and 12 (home 2, link
     * 11) being new. The registers are those of busy but for register 3, which is NIL everywhere.
     */
    static CapMembrane idle(int objects) {
        CapMembrane c = busy(objects, 32);
        for (int d = 0; d < 3; d++) {
            c.run(d, 9);
            c.give(d, 3, -1);
        }
        c.give(0, 1, 3);
        c.give(1, 0, 4);
        c.give(2, 1, 4);
        return c;
    }

    static CapMembrane busyFull() {
        CapMembrane c = busy();
        Due.fillTo(c, 16);
        return c;
    }

    static CapMembrane busyAllDomains() {
        CapMembrane c = busy();
        c.newDomain(0);
        return c;
    }

    static CapMembrane busyRevoked(int m) {
        CapMembrane c = busy();
        c.revoke(m);
        return c;
    }

    /** Domain d of busy with the status asked for, and a DROP of register 3 after the fault. */
    static CapMembrane faulted(int d, int status) {
        CapMembrane c = busy(16, 16);
        c.run(d, 2);
        if (status == CapMembrane.ST_NULL) {
            c.give(d, 0, -1);
            c.emit(d, CapMembrane.OP_POKE, 0, 0);
        } else if (status == CapMembrane.ST_REVOKED) {
            c.revoke(d == 0 ? 1 : d);
            c.emit(d, CapMembrane.OP_POKE, d == 0 ? 2 : d == 1 ? 1 : 2, 0);
        } else {
            Due.fillTo(c, 16);
            c.emit(d, CapMembrane.OP_NEW, 0, 0);
        }
        c.emit(d, CapMembrane.OP_DROP, 3, 0);
        c.run(d, 9);
        return c;
    }

    /** Appends (op, x, x) until it is refused. */
    static void fillProgram(CapMembrane c, int d, int op, int x) {
        int i = 0;
        while (i < 64 && c.emit(d, op, x, x)) {
            i++;
        }
    }

    /** What a long row of calls answers: it brings out what no getter tells, such as the programs. */
    static List<String> later(CapMembrane c) {
        List<String> rows = new ArrayList<>();
        for (int d = 0; d < 4; d++) {
            rows.add("the rest of program " + d + ": " + c.run(d, 1) + " " + c.run(d, 99) + Due.look(c));
        }
        for (int d = 0; d < 4; d++) {
            int room = 0;
            while (room < 64 && c.emit(d, CapMembrane.OP_NEW, room % 4, 0)) {
                room++;
            }
            rows.add("room in program " + d + ": " + room + ", run " + c.run(d, 2) + Due.look(c));
        }
        rows.add("new domains: " + c.newDomain(0) + " " + c.newDomain(1) + " " + c.newDomain(2) + Due.look(c));
        StringBuilder gives = new StringBuilder("gives:");
        for (int d = 0; d < 4; d++) {
            for (int o = 0; o < 12; o++) {
                gives.append(' ').append(c.give(d, o % 4, o));
            }
        }
        rows.add(gives + Due.look(c));
        int boxes = 0;
        while (boxes < 64 && c.newBox(boxes % 4) >= 0 || boxes < 4) {
            boxes++;
        }
        rows.add("new boxes: " + boxes + Due.look(c));
        rows.add("revoked: " + c.revoke(1) + c.revoke(2) + c.revoke(3) + Due.look(c));
        return rows;
    }
}
