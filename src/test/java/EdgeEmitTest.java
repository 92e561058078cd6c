import java.util.function.Supplier;

/** The boundary cases of promise 5; above each test stands the document's sentence. */
public final class EdgeEmitTest {
    private static final int NEW = CapMembrane.OP_NEW;
    private static final int DROP = CapMembrane.OP_DROP;

    private static final Due due = new Due("EdgeEmitTest");

    public static void main(String[] args) {
        emitWithoutDomain();
        emitOfWrongOp();
        emitOfWrongRegister();
        emitToFullProgram();
        emitInAnyStatus();
        emitChangesNothingElse();
        due.end();
    }

    private static void refusedEmit(String when, Supplier<CapMembrane> scene, int d, int op, int x, int y) {
        String call = when + " emit(" + d + ", " + op + ", " + x + ", " + y + ")";
        due.idleIf(call, scene, c -> c.emit(d, op, x, y), false);
    }

    // "It is refused (answer false, nothing changes) if d does not exist"
    private static void emitWithoutDomain() {
        for (int d : Scene.andFar(-1, 3, 4)) {
            refusedEmit("busy", Scene::busy, d, DROP, 0, 0);
            refusedEmit("busy", Scene::busy, d, NEW, 3, 3);
        }
        for (int d = 1; d <= 4; d++) {
            refusedEmit("fresh", () -> new CapMembrane(8, 8), d, NEW, 0, 0);
        }
        refusedEmit("four domains", Scene::busyAllDomains, 4, NEW, 0, 0);
    }

    // "op is not in 0..7"
    private static void emitOfWrongOp() {
        for (int op : Scene.andFar(-1, 8, 9, 16)) {
            refusedEmit("busy", Scene::busy, 0, op, 0, 0);
            refusedEmit("busy", Scene::busy, 2, op, 3, 1);
        }
    }

    // "x or y is not in 0..3", also for an op that does not use y
    private static void emitOfWrongRegister() {
        for (int r : Scene.andFar(-1, 4, 5)) {
            for (int op = 0; op <= 7; op++) {
                refusedEmit("busy", Scene::busy, 1, op, r, 0);
                refusedEmit("busy", Scene::busy, 1, op, 0, r);
            }
            refusedEmit("busy", Scene::busy, 0, DROP, r, r);
        }
    }

    // "or the program already holds P instructions": whether they have been run or not
    private static void emitToFullProgram() {
        for (int p = 8; p <= 32; p += 12) {
            for (int d = 0; d <= 2; d++) {
                for (int steps = 0; steps <= 64; steps += 16) {
                    int size = p;
                    int full = d;
                    int done = steps;
                    Supplier<CapMembrane> scene = () -> {
                        CapMembrane c = Scene.busy(16, size);
                        Scene.fillProgram(c, full, CapMembrane.OP_MOV, 1);
                        c.run(full, done);
                        return c;
                    };
                    refusedEmit("P = " + p + ", " + steps + " run,", scene, d, NEW, 0, 0);
                    CapMembrane c = scene.get();
                    c.run(d, 99);
                    due.is("pc at the end of a full program", c.pc(d), p);
                    due.is("a full program, another domain's emit", c.emit((d + 1) % 3, DROP, 0, 0), true);
                }
            }
        }
    }

    // "Appending is allowed in any status."
    private static void emitInAnyStatus() {
        for (int status : Scene.FAULTS) {
            for (int d = 0; d <= 2; d++) {
                CapMembrane c = Scene.faulted(d, status);
                due.is("the scene's status", c.status(d), status);
                String before = Due.look(c);
                int more = 0;
                while (more < 99 && c.emit(d, more % 8, 3, 3)) {
                    more++;
                }
                due.is("room in a program of 16 that holds " + (d == 0 ? 8 : 6), more, d == 0 ? 8 : 10);
                due.same("emit in status " + status, before, Due.look(c));
                due.is("run after it", c.run(d, 1), -1);
            }
        }
    }

    // "It changes no pc, status, register or object", nor any other instruction.
    private static void emitChangesNothingElse() {
        for (int op = 0; op <= 7; op++) {
            for (int d = 0; d <= 2; d++) {
                CapMembrane c = Scene.busy();
                CapMembrane twin = Scene.busy();
                String before = Due.look(c);
                due.is("emit", c.emit(d, op, 3, 3), true);
                due.same("emit", before, Due.look(c));
                for (int e = 0; e <= 2; e++) {
                    due.is("what was there before, run", c.run(e, 2), twin.run(e, 2));
                    due.same("what was there before", Due.look(twin), Due.look(c));
                }
                due.is("the new one, run", c.run(d, 9), 1);
            }
        }
    }
}
