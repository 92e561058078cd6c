import java.util.function.Supplier;

/** The boundary cases of promise 6; above each test stands the document's sentence. */
public final class EdgeRunTest {
    private static final int NEW = CapMembrane.OP_NEW;
    private static final int POKE = CapMembrane.OP_POKE;
    private static final int DROP = CapMembrane.OP_DROP;
    private static final int[] STEPS = {
        Integer.MIN_VALUE, -65535, -1, 0, 1, 2, 8, 65536, Integer.MAX_VALUE,
    };

    private static final Due due = new Due("EdgeRunTest");

    public static void main(String[] args) {
        withoutDomain();
        faultedDomain();
        noSteps();
        emptyProgram();
        endOfProgram();
        stepsAroundTheEnd();
        greatestSteps();
        faultAtEveryPlace();
        faultStatusAndPc();
        effectsBeforeTheFaultStay();
        neverRunsAgain();
        othersRunOn();
        emitExtends();
        fullProgram();
        fourFullPrograms();
        programIsNeverChanged();
        due.end();
    }

    // "It is refused (answer -1, nothing changes) if d does not exist"
    private static void withoutDomain() {
        for (int d : Scene.andFar(-1, 3, 4)) {
            for (int steps : STEPS) {
                due.idle("busy run(" + d + ", " + steps + ")", Scene::busy, c -> c.run(d, steps), -1);
            }
        }
        for (int d : Scene.andFar(-1, 1, 2, 3, 4)) {
            due.idle("fresh run(" + d + ", 1)", () -> new CapMembrane(8, 8), c -> c.run(d, 1), -1);
        }
        due.idle("four domains run(4, 1)", Scene::busyAllDomains, c -> c.run(4, 1), -1);
    }

    // "or status(d) != ST_READY": whatever the steps are
    private static void faultedDomain() {
        for (int status : Scene.FAULTS) {
            for (int d = 0; d <= 2; d++) {
                for (int steps : STEPS) {
                    int domain = d;
                    due.idle("status " + status + ", run(" + d + ", " + steps + ")",
                        () -> Scene.faulted(domain, status), c -> c.run(domain, steps), -1);
                }
            }
        }
    }

    // "The answer is done (0 if steps <= 0, in which case nothing changes)": also where the next
    // instruction would fault
    private static void noSteps() {
        int[] none = {0, -1, -2, -8, -65536, Integer.MIN_VALUE, Integer.MIN_VALUE + 1};
        for (int steps : none) {
            for (int d = 0; d <= 2; d++) {
                int domain = d;
                due.idle("busy run(" + d + ", " + steps + ")", Scene::busy, c -> c.run(domain, steps), 0);
                due.idle("a fault ahead, run(" + d + ", " + steps + ")", () -> {
                    CapMembrane c = Scene.busyRevoked(1);
                    c.revoke(2);
                    return c;
                }, c -> c.run(domain, steps), 0);
            }
        }
    }

    // "while done < steps and pc < program length": an empty program ends at once.
    private static void emptyProgram() {
        for (int steps : STEPS) {
            due.idle("fresh run(0, " + steps + ")", () -> new CapMembrane(8, 8), c -> c.run(0, steps), 0);
            due.idle("fresh guest, run(3, " + steps + ")", Scene::busyAllDomains, c -> c.run(3, steps), 0);
        }
    }

    // "Reaching the end of the program leaves the status at ST_READY", and a run from there does
    // nothing.
    private static void endOfProgram() {
        for (int d = 0; d <= 2; d++) {
            int domain = d;
            Supplier<CapMembrane> ended = () -> {
                CapMembrane c = Scene.busy();
                c.run(domain, 99);
                return c;
            };
            due.is("status at the end", ended.get().status(d), CapMembrane.ST_READY);
            due.is("pc at the end", ended.get().pc(d), d == 0 ? 6 : 4);
            for (int steps : STEPS) {
                due.idle("at the end, run(" + d + ", " + steps + ")", ended, c -> c.run(domain, steps), 0);
            }
        }
    }

    /** A program of so many NEWs in domain d, with so many of them run. */
    private static CapMembrane news(int d, int length, int ran) {
        CapMembrane c = new CapMembrane(32, 32);
        for (int i = 0; i < d; i++) {
            c.newDomain(0);
        }
        for (int i = 0; i < length; i++) {
            c.emit(d, NEW, i % 4, 0);
        }
        c.run(d, ran);
        return c;
    }

    // "while done < steps and pc < program length": fewer steps than instructions, as many, more
    private static void stepsAroundTheEnd() {
        for (int length = 0; length <= 9; length++) {
            for (int ran = 0; ran <= length; ran++) {
                for (int steps = 0; steps <= 11; steps++) {
                    int d = steps % 4;
                    CapMembrane c = news(d, length, ran);
                    int want = Math.min(steps, length - ran);
                    String call = length + " NEWs, " + ran + " run, run(" + d + ", " + steps + ")";
                    due.is(call, c.run(d, steps), want);
                    due.is(call + ": pc", c.pc(d), ran + want);
                    due.is(call + ": count", Due.count(c), d + ran + want);
                    due.is(call + ": status", c.status(d), CapMembrane.ST_READY);
                }
            }
        }
    }

    // The same with steps so great that a sum with pc would wrap around.
    private static void greatestSteps() {
        int[] great = {Integer.MAX_VALUE, Integer.MAX_VALUE - 1, 1 << 30, 65536, 256};
        for (int steps : great) {
            for (int ran = 0; ran <= 9; ran++) {
                CapMembrane c = news(0, 9, ran);
                due.is("9 NEWs, " + ran + " run, run(0, " + steps + ")", c.run(0, steps), 9 - ran);
                due.is("pc(0)", c.pc(0), 9);
            }
        }
    }

    // "If it faults, ... pc is unchanged, and the loop ends": at the first instruction, at the last
    // and at all between; the answer counts those before it.
    private static void faultAtEveryPlace() {
        for (int p = 8; p <= 32; p += 24) {
            for (int at = 0; at < p; at++) {
                for (int ran = 0; ran <= at; ran += 3) {
                    CapMembrane c = new CapMembrane(16, p);
                    c.newBox(0);
                    c.give(0, 0, 0);
                    for (int i = 0; i < p; i++) {
                        due.is("emit", c.emit(0, POKE, i == at ? 1 : 0, 0), true);
                    }
                    due.is("run before the fault", c.run(0, ran), ran);
                    String when = "POKE of NIL at " + at + " of " + p + ", " + ran + " run before";
                    due.is(when, c.run(0, 99), at - ran);
                    due.is(when + ": pc", c.pc(0), at);
                    due.is(when + ": status", c.status(0), CapMembrane.ST_NULL);
                    due.is(when + ": hits(0)", c.hits(0), at);
                }
            }
        }
        CapMembrane c = news(0, 3, 0);
        c.emit(0, DROP, 0, 0);
        c.emit(0, POKE, 0, 0);
        due.is("so many steps that the fault is not reached", c.run(0, 4), 4);
        due.is("status(0)", c.status(0), CapMembrane.ST_READY);
        due.is("the step of the fault", c.run(0, 1), 0);
        due.is("status(0)", c.status(0), CapMembrane.ST_NULL);
        due.is("pc(0)", c.pc(0), 4);
    }

    // "the status becomes ST_NULL, ST_REVOKED or ST_FULL to match the fault, pc is unchanged"
    private static void faultStatusAndPc() {
        for (int status : Scene.FAULTS) {
            for (int d = 0; d <= 2; d++) {
                CapMembrane c = Scene.faulted(d, status);
                due.is("status(" + d + ")", c.status(d), status);
                due.is("pc(" + d + ")", c.pc(d), d == 0 ? 6 : 4);
                for (int other = 0; other <= 2; other++) {
                    due.is("another's status", c.status(other) == 0, other != d);
                }
            }
        }
    }

    // "effects made before the fault stay": those of the instructions before it, and those of the
    // faulting one itself
    private static void effectsBeforeTheFaultStay() {
        CapMembrane c = Scene.busy(14, 16);
        c.emit(2, NEW, 1, 0);
        c.emit(2, CapMembrane.OP_SET0, 2, 1);
        due.is("GET0, DROP, NEW, then SET0 without room", c.run(2, 99), 3);
        due.is("status(2)", c.status(2), CapMembrane.ST_FULL);
        due.is("pc(2)", c.pc(2), 5);
        due.same("GET0's forwarders", " o11:3,1,3,0[-1 -1 -1 -1 ] o12:3,2,11,0[-1 -1 -1 -1 ]",
            Due.object(c, 11) + Due.object(c, 12));
        due.is("GET0's register", c.reg(2, 3), 12);
        due.is("NEW's register", c.reg(2, 1), 13);
        due.is("SET0's first hit, after GET0's", c.hits(10), 2);
        due.is("GET0's second hit", c.hits(7), 1);
        due.is("GET0's hit on the box", c.hits(2), 3);
        due.is("slot(2, 0)", c.slot(2, 0), 3);

        CapMembrane r = Scene.busy(16, 16);
        r.give(1, 1, 0);
        r.emit(1, DROP, 0, 0);
        due.is("GET1 on its own revoker, first of all", r.run(1, 99), 0);
        due.is("status(1)", r.status(1), CapMembrane.ST_REVOKED);
        due.is("the revocation stays", r.revoked(1), true);
        due.is("hits(0)", r.hits(0), 1);
        due.is("reg(1, 0)", r.reg(1, 0), 4);
    }

    // "A domain that has faulted never runs again": though its cause is gone
    private static void neverRunsAgain() {
        CapMembrane c = new CapMembrane(16, 16);
        c.newBox(0);
        c.emit(0, POKE, 0, 0);
        due.is("POKE of NIL", c.run(0, 1), 0);
        c.give(0, 0, 0);
        c.emit(0, DROP, 1, 0);
        for (int i = 0; i < 3; i++) {
            due.is("run again", c.run(0, 1), -1);
            due.is("run again", c.run(0, 99), -1);
            due.is("pc(0)", c.pc(0), 0);
            due.is("status(0)", c.status(0), CapMembrane.ST_NULL);
            due.is("hits(0)", c.hits(0), 0);
            c.newDomain(0);
        }
    }

    // One domain's fault is no other's.
    private static void othersRunOn() {
        for (int status : Scene.FAULTS) {
            for (int d = 0; d <= 2; d++) {
                CapMembrane c = Scene.faulted(d, status);
                for (int other = 0; other <= 2; other++) {
                    due.is("run(" + other + ", 0)", c.run(other, 0), other == d ? -1 : 0);
                }
            }
        }
        CapMembrane c = Scene.faulted(1, CapMembrane.ST_NULL);
        due.is("the host runs on, through the faulted domain's box", c.run(0, 9), 2);
        due.is("the child runs on, through the faulted domain", c.run(2, 9), 2);
    }

    // "later emit calls can extend the program and a later run continues from pc"
    private static void emitExtends() {
        CapMembrane c = new CapMembrane(32, 32);
        for (int i = 0; i < 32; i++) {
            due.is("run at the end", c.run(0, 99), 0);
            due.is("emit", c.emit(0, NEW, i % 4, 0), true);
            due.is("run of the one", c.run(0, i % 2 == 0 ? 1 : 99), 1);
            due.is("pc(0)", c.pc(0), i + 1);
            due.is("reg", c.reg(0, i % 4), i);
        }
    }

    // A program of P instructions runs to its end, which is P.
    private static void fullProgram() {
        for (int p = 8; p <= 32; p++) {
            for (int d = 0; d < 4; d++) {
                CapMembrane c = new CapMembrane(8, p);
                for (int i = 0; i < 3; i++) {
                    c.newDomain(0);
                }
                c.give(d, 3, c.newBox(d));
                for (int i = 0; i < p; i++) {
                    c.emit(d, POKE, 3, 0);
                }
                due.is("P = " + p + ", run(" + d + ", P - 1)", c.run(d, p - 1), p - 1);
                due.is("run(" + d + ", 2)", c.run(d, 2), 1);
                due.is("pc(" + d + ")", c.pc(d), p);
                due.is("status(" + d + ")", c.status(d), CapMembrane.ST_READY);
                due.is("hits(3)", c.hits(3), p);
                due.is("emit to it", c.emit(d, POKE, 3, 0), false);
                due.is("run(" + d + ", 1)", c.run(d, 1), 0);
                due.is("hits(3)", c.hits(3), p);
            }
        }
    }

    // Every domain has "a program of at most P instructions" of its own: four full ones, appended
    // and run by turns. In program d, instruction i hits box (d + i) % 4.
    private static void fourFullPrograms() {
        CapMembrane c = new CapMembrane(32, 32);
        for (int i = 0; i < 3; i++) {
            c.newDomain(i);
        }
        for (int i = 0; i < 16; i++) {
            c.give(i / 4, i % 4, c.newBox(i / 4));
        }
        for (int i = 0; i < 128; i++) {
            due.is("emit", c.emit(i % 4, POKE, (i % 4 + i / 4) % 4, 0), true);
        }
        for (int i = 0; i < 32; i++) {
            for (int d = 3; d >= 0; d--) {
                int box = 3 + d * 4 + (d + i) % 4;
                int hits = c.hits(box);
                due.is("run(" + d + ", 1)", c.run(d, 1), 1);
                due.is("instruction " + i + " of " + d + ": hits(" + box + ")", c.hits(box), hits + 1);
            }
        }
        for (int d = 0; d < 4; d++) {
            due.is("pc(" + d + ")", c.pc(d), 32);
            due.is("emit past P", c.emit(d, POKE, 0, 0), false);
        }
    }

    // "The program itself is never changed by running": not the running domain's room, nor the
    // others' instructions
    private static void programIsNeverChanged() {
        CapMembrane c = Scene.busy();
        c.run(0, 99);
        due.is("room after a run, emit 7", c.emit(0, DROP, 0, 0), true);
        c.run(0, 99);
        due.is("room after a run, emit 8", c.emit(0, DROP, 0, 0), true);
        due.is("room after a run, emit 9", c.emit(0, DROP, 0, 0), false);
        due.is("the others' programs", c.run(1, 1), 1);
        due.is("GET1's register", c.reg(1, 0), 7);
        due.is("the others' programs", c.run(1, 9), 1);
        due.is("MOV's register", c.reg(1, 3), 8);
        due.is("the others' programs", c.run(2, 1), 1);
        due.is("GET0's register", c.reg(2, 3), 12);
        due.is("the others' programs", c.run(2, 9), 1);
        due.is("DROP's register", c.reg(2, 1), -1);
    }
}
