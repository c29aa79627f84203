/** Edges of the term ERRORS: codes, actions, the handler, locks. Above each test stands the sentence that it is of. */
public final class EdgeErrorTest {
    private static final int LOWEST = Integer.MIN_VALUE;
    private static final int HIGHEST = Integer.MAX_VALUE;
    private static final String P = "process p { entry 0; priority 5; } ";
    private static final String H = "process h { entry 768; priority 0; handler; } ";
    private static final String[] KINDS = {"illegal", "memory", "late", "raised", "align"};
    private static final String[] ACTIONS = {"skip", "stop", "again", "warm", "cold", "idle", "handle"};
    /** What goes wrong at place 12, behind x17 = 20 and x10 = 77; a jump to itself is late in the end. */
    private static final int[] WRONG = {-1, Bench.fetch(0, 5, 0, -1), Bench.STAY, Bench.CALL, Bench.fetch(1, 5, 0, -1)};
    private static final int[] CODES = {-1, -1, 30, 77, -1};

    public static void main(String[] args) {
        Bench b = new Bench();
        codesOfWords(b);
        codesOfPlaces(b);
        codesOfPc(b);
        codesOfDueTimes(b);
        codesOfWhoRaised(b);
        theLatestAreKept(b);
        whoWentWrong(b);
        everyActionOfEveryKind(b);
        tablesThatTellNone(b);
        skip(b);
        whatItWaitsForIsForgotten(b);
        theHandlerIsNotDormant(b);
        twoLateOnes(b);
        errorsOfTheHandler(b);
        lateHandlers(b);
        handlersThatEnd(b);
        handlersThatEndWithNobodyFaulted(b);
        unlocks(b);
        readyOnesDoNotUnlock(b);
        b.finish();
    }

    private static int timeOf(int kind) {
        return kind == 2 ? 31 : 3;
    }

    private static void goWrong(Bench b, int kind, String things) {
        b.alone("process p { entry 0; priority 5; deadline 30; } " + H + things);
        b.program(0, 0, Bench.code(Bench.set(17, 20), Bench.setLong(10, 77), WRONG[kind], Bench.STAY));
        b.program(0, 768, Bench.STAY);
        b.x.begin();
        b.x.run(timeOf(kind) + 1);
    }

    // ERRORS: "The CODE: the word that is illegal (115 of a call)"
    private static void codesOfWords(Bench b) {
        int[] words = {0, 1, -1, LOWEST, HIGHEST, 115 | 1 << 7};
        for (int word : words) {
            b.alone(P);
            b.x.image(0, 0, word);
            b.x.begin();
            b.x.run(1);
            b.isError("illegal", 0, 0, 0, 0, 0, 0, word);
        }
        b.asked(P, 37, 1, 2, 3);
        b.isError("a call", 0, 8, 0, 0, 0, 0, 115);
    }

    // ERRORS: "the place (memory, align; PC itself, if that is none)"
    private static void codesOfPlaces(Bench b) {
        int[][] rows = {{1024, 1}, {-4, 1}, {LOWEST, 1}, {HIGHEST - 3, 1}, {2, 4}, {1022, 4}, {-1, 4}, {HIGHEST, 4}};
        for (int[] row : rows) {
            b.alone(P);
            b.program(0, 0, Bench.code(Bench.setLong(5, row[0]), Bench.fetch(2, 6, 5, 0), Bench.store(2, 6, 5, 0)));
            b.x.begin();
            b.x.run(4);
            b.isError("fetch", 1, 2, 0, 0, row[1], 0, row[0]);
            b.isError("store", 0, 3, 0, 0, row[1], 0, row[0]);
        }
    }

    // ERRORS: "PC is where it went wrong." and "PC itself, if that is none"
    private static void codesOfPc(Bench b) {
        int[][] rows = {{1024, 1}, {-4, 1}, {LOWEST, 1}, {HIGHEST - 3, 1}, {2, 4}, {1026, 4}, {-2, 4}, {HIGHEST - 1, 4}};
        for (int[] row : rows) {
            b.alone(P + "errors { memory : stop; align : stop; }");
            b.program(0, 0, Bench.code(Bench.setLong(5, row[0]), 5 << 15 | 103));
            b.x.begin();
            b.x.run(4);
            b.isError("PC", 0, 3, 0, 0, row[1], 1, row[0]);
            b.isState("where it went wrong", 0, 0, 0, row[0], 5);
        }
    }

    // ERRORS: "the DUE that is over"
    private static void codesOfDueTimes(Bench b) {
        int[] deadlines = {1, 2, 400};
        for (int d : deadlines) {
            b.alone("process p { entry 0; priority 5; deadline " + d + "; }");
            b.x.image(0, 0, Bench.STAY);
            b.x.begin();
            b.x.run(d + 2);
            b.isError("late", 0, d + 1, 0, 0, 2, 0, d);
            b.is("PC stays", b.x.state(0, 0, 1), 0);
        }
    }

    // ERRORS: "x10 of who raised it."
    private static void codesOfWhoRaised(Bench b) {
        int[] codes = {0, 1, -1, LOWEST, HIGHEST};
        for (int action = 0; action < 6; action++) {
            for (int code : codes) {
                b.asked(P + "errors { raised : " + ACTIONS[action] + "; }", 20, code, 0, 0);
                b.isError("raised", 0, 8, 0, 0, 3, action, code);
            }
        }
    }

    // ERRORS: "Each is noted (time, partition, process, KIND, the ACTION that is taken, CODE), the latest 64 are kept."
    private static void theLatestAreKept(Bench b) {
        b.alone(P);
        for (int i = 0; i < 256; i++) {
            b.x.image(0, 4 * i, -128 * i);
        }
        b.x.begin();
        int[] counts = {1, 62, 1, 1, 62, 1, 1};
        int all = 0;
        for (int more : counts) {
            b.x.run(more);
            all += more;
            b.is("in all", b.x.about(1), all);
            int kept = Math.min(64, all);
            for (int k = 0; k < kept; k++) {
                b.isError("of " + all, k, all - 1 - k, 0, 0, 0, 0, -128 * (all - 1 - k));
            }
            b.is("no more of " + all, b.x.error(kept, 0), -1);
        }
    }

    // ERRORS: "Each is noted (time, partition, process, KIND, the ACTION that is taken, CODE)" The last of all partitions and
    // processes.
    private static void whoWentWrong(Bench b) {
        b.fresh();
        b.load(Bench.times(15, "partition b# { memory 256; } ") + "partition a { memory 256; "
                + Bench.times(15, "process q# { entry 0; priority 1; stopped; } ") + P + "} frame { b3 2; a 1; }");
        b.x.begin();
        b.x.run(3);
        b.isError("the last of sixteen", 0, 2, 15, 15, 0, 0, 0);
    }

    // ERRORS: "0 skip: PC is 4 more (late: nothing); 1 stop: it is DORMANT; 2 again: it BEGINS; 3, 4, 5 the partition begins
    // WARM, COLD, is IDLE; 6 handle: it is FAULTED (what it waits for is forgotten), and the handler BEGINS"
    private static void everyActionOfEveryKind(Bench b) {
        int[] states = {1, 0, 1, 1, 1, 0, 3};
        for (int kind = 0; kind < 5; kind++) {
            for (int action = 0; action < 7; action++) {
                String what = KINDS[kind] + " : " + ACTIONS[action];
                goWrong(b, kind, "errors { " + what + "; }");
                int now = timeOf(kind);
                boolean anew = action >= 2 && action <= 4;
                b.isError(what, 0, now, 0, 0, kind, action, CODES[kind]);
                b.is(what, b.x.about(1), 1);
                b.is(what + " STATE", b.x.state(0, 0, 0), states[action]);
                // a late one that BEGINS again goes on in that tick
                int pc = anew ? kind == 2 && action == 2 ? 4 : 0 : action == 0 && kind != 2 ? 16 : 12;
                b.is(what + " PC", b.x.state(0, 0, 1), pc);
                b.is(what + " RELEASE", b.x.state(0, 0, 6), anew ? now : 0);
                int due = action == 0 || action == 6 ? kind == 2 ? -1 : 30 : anew ? now + 30 : -1;
                b.is(what + " DUE", b.x.state(0, 0, 3), due);
                b.is(what + " began", b.x.partition(0, 8), action == 3 || action == 4 ? 2 : 1);
                b.is(what + " how", b.x.partition(0, 11), action == 3 || action == 4 ? 3 : 0);
                b.is(what + " MODE", b.x.partition(0, 0), action == 5 ? 1 : 0);
                b.is(what + " handler", b.x.state(0, 1, 0), action == 6 ? 1 : 0);
                b.is(what + " handler's RELEASE", b.x.state(0, 1, 6), action == 6 ? now : 0);
                b.is(what + " handler's PC", b.x.state(0, 1, 1), action == 6 ? 768 : 0);
            }
        }
    }

    // ERRORS: "ACTIONS, by the partition's table (0, skip, if it tells none)"
    private static void tablesThatTellNone(Bench b) {
        for (int kind = 0; kind < 5; kind++) {
            StringBuilder others = new StringBuilder("errors { ");
            for (int other = 0; other < 5; other++) {
                others.append(other == kind ? "" : KINDS[other] + " : idle; ");
            }
            String[] tables = {"", others + "}"};
            for (String table : tables) {
                goWrong(b, kind, table);
                b.isError(KINDS[kind], 0, timeOf(kind), 0, 0, kind, 0, CODES[kind]);
                b.is("READY", b.x.state(0, 0, 0), 1);
                b.is("NORMAL", b.x.partition(0, 0), 0);
            }
        }
    }

    // ERRORS: "0 skip: PC is 4 more (late: nothing)"
    private static void skip(Bench b) {
        b.alone("process p { entry 0; priority 5; deadline 5; } semaphore s 0 : 1; errors { late : skip; }");
        b.program(0, 0, Bench.ask(8, 0, 50));
        b.x.begin();
        b.x.run(7);
        b.isError("late", 0, 6, 0, 0, 2, 0, 5);
        b.isState("it waits on", 0, 0, 2, 20, 5, -1, 54);
        b.is("it waits on", b.x.waiting(0, 0, 0), 1);
    }

    // ERRORS: "6 handle: it is FAULTED (what it waits for is forgotten), and the handler BEGINS"
    private static void whatItWaitsForIsForgotten(Bench b) {
        int[][] waits = {Bench.ask(8, 0, 50), Bench.ask(12, 0, 50), Bench.ask(14, 0, 50), Bench.ask(17, 0, 50), Bench.ask(26, 50), Bench.ask(2, 50)};
        int[][] gives = {Bench.ask(9, 0), Bench.ask(10, 0), Bench.ask(13, 0, 7, 0), Bench.ask(15, 0, 7), Bench.ask(28, 0), Bench.ask(6)};
        for (int i = 0; i < waits.length; i++) {
            b.alone("process p { entry 0; priority 5; deadline 5; } " + H + "semaphore s 0 : 1; event e; buffer u 1; board o;"
                    + " errors { late : handle; }");
            b.program(0, 0, Bench.code(waits[i], Bench.STAY));
            b.program(0, 768, Bench.code(gives[i], Bench.STAY));
            b.x.begin();
            b.x.run(7);
            b.isState("FAULTED", 0, 0, 3, 20, 5, -1, -1);
            for (int sort = 0; sort < 4; sort++) {
                b.is("nobody waits", b.x.waiting(0, sort, 0), 0);
            }
            b.x.run(4);
            b.isRegister("28 finds nobody, 6 tells the time", 1, 10, i == 4 ? 2 : i == 5 ? 10 : 0);
            b.x.run(100);
            b.isState("FAULTED still", 0, 0, 3, 20, 5, -1, -1);
        }
    }

    // ERRORS: "if the handler is not DORMANT (late): as skip."
    private static void theHandlerIsNotDormant(Bench b) {
        b.alone(P + "process d { entry 4; priority 4; deadline 3; delay 1; } " + H + "errors { illegal : handle; late : handle; }");
        b.program(0, 768, Bench.STAY);
        b.x.begin();
        b.x.run(5);
        b.is("one error", b.x.about(1), 1);
        b.x.run(1);
        b.isError("the ACTION that is taken", 0, 5, 0, 1, 2, 0, 4);
        b.isState("nothing", 0, 1, 1, 4, 4, -1, -1);
        b.isState("the handler goes on", 0, 2, 1, 768, 0, -1, -1, 5, 0);
        b.is("the other is FAULTED still", b.x.state(0, 0, 0), 3);
    }

    // ERRORS: "if the handler is not DORMANT (late): as skip." Two are late in one tick: the second finds it so.
    private static void twoLateOnes(Bench b) {
        b.alone("process p { entry 0; priority 5; deadline 3; } process q { entry 0; priority 5; deadline 3; } " + H
                + "errors { late : handle; }");
        b.program(0, 0, Bench.STAY);
        b.program(0, 768, Bench.STAY);
        b.x.begin();
        b.x.run(5);
        b.isError("the first", 1, 4, 0, 0, 2, 6, 3);
        b.isError("the second", 0, 4, 0, 1, 2, 0, 3);
        b.is("FAULTED", b.x.state(0, 0, 0), 3);
        b.isState("READY, without DUE", 0, 1, 1, 0, 5, -1);
    }

    // ERRORS: "An error of the handler itself: always 3."
    private static void errorsOfTheHandler(Bench b) {
        int[][] wrong = {{-1}, {Bench.fetch(0, 5, 0, -1)}, {Bench.set(17, 20), Bench.set(10, -1), Bench.CALL}, {Bench.fetch(1, 5, 0, -1)}};
        int[] kinds = {0, 1, 3, 4};
        for (int action = 0; action < 7; action++) {
            for (int i = 0; i < 4; i++) {
                StringBuilder table = new StringBuilder("late : handle; ");
                for (int kind : kinds) {
                    table.append(KINDS[kind] + " : " + ACTIONS[action] + "; ");
                }
                b.alone("process p { entry 0; priority 5; deadline 3; } " + H + "semaphore s 1 : 2; errors { " + table + "}");
                b.program(0, 0, Bench.STAY);
                b.program(0, 768, wrong[i]);
                b.x.begin();
                b.x.run(4 + wrong[i].length);
                b.isError("the handler's", 0, 3 + wrong[i].length, 0, 1, kinds[i], 3, -1);
                b.is("two errors", b.x.about(1), 2);
                b.is("it began WARM", b.x.partition(0, 8), 2);
                b.is("by an error", b.x.partition(0, 11), 3);
                b.is("the handler is DORMANT", b.x.state(0, 1, 0), 0);
                b.isState("who was FAULTED begins", 0, 0, 1, 0, 5, 6 + wrong[i].length, -1, 4, 3 + wrong[i].length);
            }
        }
    }

    // ERRORS: "An error of the handler itself: always 3." Late, too.
    private static void lateHandlers(Bench b) {
        String[] actions = {"skip", "stop", "again", "idle", "cold", "handle"};
        for (String action : actions) {
            b.alone(P + "process h { entry 768; priority 0; deadline 4; handler; } errors { illegal : handle; late : " + action + "; }");
            b.program(0, 768, Bench.code(Bench.set(5, 9), Bench.store(2, 5, 0, 512), Bench.STAY));
            b.x.begin();
            b.x.run(5);
            b.is("at its DUE it is not", b.x.about(1), 1);
            b.is("its DUE", b.x.state(0, 1, 3), 4);
            b.is("the tick is over", b.x.run(1), 0);
            b.isError("late", 0, 5, 0, 1, 2, 3, 4);
            b.is("WARM: memory stays", b.x.peek(0, 512), 9);
            b.is("it began WARM", b.x.partition(0, 8), 2);
        }
    }

    // ERRORS: "When the handler is DORMANT again, who is FAULTED still is DORMANT, too."
    private static void handlersThatEnd(Bench b) {
        b.is("0 has no answer", b.handlerAsked("semaphore s 0 : 1;", 0, 5, 0, 0), 5);
        b.is("the handler is DORMANT", b.x.state(0, 1, 0), 0);
        b.isState("who was FAULTED, too", 0, 0, 0, 0, 5, -1, -1);
        b.is("nobody", b.x.run(10), 0);
        // it may begin again, and go wrong again
        b.alone(P + "process q { entry 512; priority 1; } " + H + "errors { illegal : handle; }");
        b.program(0, 768, Bench.ask(0));
        b.program(0, 512, Bench.code(Bench.ask(3, 0), Bench.STAY));
        b.x.begin();
        b.x.run(6);
        b.is("DORMANT", b.x.state(0, 0, 0), 0);
        b.x.run(5 + 1);
        b.is("it went wrong again", b.x.about(1), 2);
        b.isError("handle", 0, 11, 0, 0, 0, 6, 0);
        b.isState("FAULTED", 0, 0, 3, 0, 5, -1, -1, 2, 10);
        b.is("the handler BEGINS again", b.x.state(0, 2, 0), 1);
    }

    // ERRORS: "who is FAULTED still is DORMANT, too." Who is so no more stays as it is.
    private static void handlersThatEndWithNobodyFaulted(Bench b) {
        for (int a = 0; a < 3; a++) {
            b.alone(P + H + "errors { illegal : handle; }");
            b.program(0, 768, Bench.code(Bench.ask(25, a), Bench.ask(0)));
            b.x.begin();
            b.x.run(11);
            b.is("the handler", b.x.state(0, 1, 0), 0);
            b.is("who was FAULTED", b.x.state(0, 0, 0), a == 1 ? 0 : 1);
        }
    }

    // ERRORS: "Who is not READY any more unlocks its partition, if it locked it."
    private static void unlocks(Bench b) {
        int[][] ends = {Bench.ask(0), Bench.ask(4, 0), {0}, {Bench.fetch(0, 5, 0, -1)}};
        for (int[] end : ends) {
            b.alone("process p { entry 0; priority 5; } process q { entry 512; priority 9; delay 9; } " + H
                    + "errors { illegal : stop; memory : handle; }");
            b.program(0, 0, Bench.code(Bench.set(17, 21), Bench.CALL, Bench.CALL, Bench.CALL, Bench.CALL, Bench.CALL, Bench.CALL, Bench.CALL,
                    Bench.CALL, Bench.CALL, end));
            b.program(0, 512, Bench.STAY);
            b.program(0, 768, Bench.ask(0));
            b.x.begin();
            b.x.run(10 + end.length - 1);
            b.is("the most locks", b.x.partition(0, 9), 8);
            b.is("who locked it", b.x.partition(0, 10), 0);
            b.x.run(1);
            b.is("not READY any more", b.x.state(0, 0, 0), end[0] == Bench.fetch(0, 5, 0, -1) ? 3 : 0);
            b.is("no locks", b.x.partition(0, 9), 0);
            b.x.run(6);
            b.is("the other goes on", b.x.partition(0, 10), 1);
        }
        // late: it is FAULTED in the tick's beginning
        b.alone("process p { entry 0; priority 5; deadline 9; } " + H + "errors { late : handle; }");
        b.program(0, 0, Bench.set(17, 21), Bench.CALL, Bench.STAY);
        b.program(0, 768, Bench.STAY);
        b.x.begin();
        b.x.run(10);
        b.is("LOCKED", b.x.partition(0, 9), 1);
        b.x.run(1);
        b.is("unlocked", b.x.partition(0, 9), 0);
    }

    // ERRORS: "Who is not READY any more unlocks its partition, if it locked it." Who is READY, or did not lock it, does not.
    private static void readyOnesDoNotUnlock(Bench b) {
        String[] actions = {"skip", "again"};
        for (String action : actions) {
            b.alone(P + "errors { illegal : " + action + "; }");
            b.program(0, 0, Bench.set(17, 21), Bench.CALL, 0);
            b.x.begin();
            b.x.run(3);
            b.is("READY", b.x.state(0, 0, 0), 1);
            b.is(action, b.x.partition(0, 9), 1);
        }
        b.alone(P + "process q { entry 512; priority 3; } ");
        b.program(0, 0, Bench.code(Bench.set(17, 21), Bench.CALL, Bench.ask(4, 1), Bench.STAY));
        b.x.begin();
        b.x.run(7);
        b.is("q is DORMANT", b.x.state(0, 1, 0), 0);
        b.is("LOCKED still", b.x.partition(0, 9), 1);
    }
}
