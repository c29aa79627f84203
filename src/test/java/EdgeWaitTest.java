/** Edges of the term CALLS: numbers, answers, TIMES, waits and turns. Above each test stands the sentence that it is of. */
public final class EdgeWaitTest {
    /** Where a call's TIME stands in the rows below. */
    private static final int T = 12345;
    private static final String THINGS = "semaphore s 0 : 1; event e; buffer u 1; buffer v 1; board o; port r out queuing;"
            + " port q in queuing; port t in queuing; port z out queuing; } channel queuing 1 { a.r > a.q }"
            + " channel queuing 1 { input > a.t } channel queuing 1 { a.z > output } frame { a 10; }";
    private static final String ONE = "partition a { memory 1024; process p { entry 256; priority 5; } " + THINGS;
    private static final String HANDLER = "partition a { memory 1024; process p { entry 0; priority 5; }"
            + " process h { entry 256; priority 0; handler; } errors { illegal : handle; } " + THINGS;
    /** Behind these there is nothing to take, and no room in buffer 1 and at port 0. */
    private static final int[] NOTHING = Bench.code(Bench.ask(13, 1, 1, 0), Bench.ask(18, 0, 1, 0));
    private static final int[][] WAITS = {{8, 0, T, 0}, {12, 0, T, 0}, {13, 1, 9, T}, {14, 0, T, 0}, {17, 0, T, 0}, {18, 0, 9, T},
        {19, 2, T, 0}, {26, T, 0, 0}};
    /** Behind these there is all that is asked for. */
    private static final int[] ALL = Bench.code(Bench.ask(9, 0), Bench.ask(10, 0), Bench.ask(13, 1, 1, 0), Bench.ask(15, 0, 1),
            Bench.ask(18, 0, 1, 0));
    private static final int[][] NO_WAITS = {{8, 0, T, 0}, {12, 0, T, 0}, {13, 0, 9, T}, {14, 1, T, 0}, {17, 0, T, 0}, {18, 3, 9, T},
        {19, 1, T, 0}};
    private static final int[] LOCK = {Bench.set(17, 21), Bench.CALL};
    private static final int[] NO_TIMES = {-2, -3, 100001, 100002, Integer.MIN_VALUE, Integer.MAX_VALUE};

    public static void main(String[] args) {
        Bench b = new Bench();
        numbersOfCalls(b);
        pcIsFourMore(b);
        notToWait(b);
        soLongAtMost(b);
        asLongAsItTakes(b);
        noTimes(b);
        lookedAtInAnyCase(b);
        behindTheThing(b);
        answerWhenReadyAgain(b);
        whatItWaitedFor(b);
        lockedOnesDoNotWait(b);
        handlersDoNotWait(b);
        whoNeedNotWait(b);
        turnsOfSemaphores(b);
        turnsOfBuffers(b);
        turnsOfChannels(b);
        turnsOfOnePriority(b);
        b.finish();
    }

    /** What a call answers behind others; the time at which it was done is one less than it is now. */
    private static int behind(Bench b, String text, int[] ahead, int[] ask, int t) {
        b.fresh();
        b.load(text);
        int process = text.equals(HANDLER) ? 1 : 0;
        int[] words = Bench.askLong(ask[0], ask[1] == T ? t : ask[1], ask[2] == T ? t : ask[2], ask[3] == T ? t : ask[3]);
        b.program(0, 256, Bench.code(ahead, words, Bench.STAY));
        b.x.begin();
        b.x.run(process + ahead.length + 9);
        b.is("the call is done", b.x.state(0, process, 1), 256 + 4 * (ahead.length + 9));
        return b.x.register(0, process, 10);
    }

    private static String name(int[] ask, int t) {
        return "call " + ask[0] + " with time " + t;
    }

    // CALLS: "x17 tells which" .. "Others: error illegal (PC stays at the call, as with 20)."
    private static void numbersOfCalls(Bench b) {
        int[] others = {-1, 37, 38, 64, 100, 115, Integer.MIN_VALUE, Integer.MAX_VALUE};
        for (int number : others) {
            b.asked("process p { entry 0; priority 5; } errors { illegal : stop; }", number, 7, 8, 9);
            b.isError("call " + number, 0, 8, 0, 0, 0, 1, 115);
            b.isState("PC stays at the call", 0, 0, 0, 32, 5);
            for (int i = 0; i < 3; i++) {
                b.isRegister("nothing is changed", 0, 10 + i, 7 + i);
            }
        }
        for (int number = 0; number <= 36; number++) {
            b.asked("process p { entry 0; priority 5; } ", number, 0, 0, 0);
            b.is("call " + number, b.x.about(1), number == 20 ? 1 : 0);
        }
        b.asked("process p { entry 0; priority 5; } errors { raised : stop; }", 20, 7, 8, 9);
        b.isError("call 20", 0, 8, 0, 0, 3, 1, 7);
        b.isState("PC stays at the call", 0, 0, 0, 32, 5);
    }

    // CALLS: "PC is 4 more ahead of it."
    private static void pcIsFourMore(Bench b) {
        int[] calls = {0, 2, 4, 6, 26};
        for (int number : calls) {
            b.asked("process p { entry 0; priority 5; } ", number, 0, 0, 0);
            b.is("behind call " + number, b.x.state(0, 0, 1), 36);
        }
        b.alone("process p { entry 1016; priority 5; } ");
        b.program(0, 1016, Bench.set(17, 6), Bench.CALL);
        b.x.begin();
        b.x.run(2);
        b.is("behind the last word of the memory", b.x.state(0, 0, 1), 1024);
    }

    // CALLS: "TIMES t: 0 not to wait (answer 2 then)"
    private static void notToWait(Bench b) {
        for (int[] ask : WAITS) {
            b.is(name(ask, 0), behind(b, ONE, NOTHING, ask, 0), 2);
            b.is(name(ask, 0), b.x.state(0, 0, 0), 1);
        }
    }

    // CALLS: "1 .. 100000 so long at most"
    private static void soLongAtMost(Bench b) {
        int[] times = {1, 2, 99999, 100000};
        for (int[] ask : WAITS) {
            for (int t : times) {
                b.is(name(ask, t), behind(b, ONE, NOTHING, ask, t), ask[1] == T ? t : ask[1]);
                b.is(name(ask, t), b.x.state(0, 0, 0), 2);
                b.is(name(ask, t), b.x.state(0, 0, 4), b.x.about(0) - 1 + t);
            }
            behind(b, ONE, NOTHING, ask, 2);
            b.is("waits", b.x.run(1), 0);
            b.is("at its end it goes on", b.x.run(1), 1);
            b.isRegister(name(ask, 2), 0, 10, 4);
            b.is("it waits no more", b.x.state(0, 0, 0), 1);
        }
    }

    // CALLS: "-1 as long as it takes"
    private static void asLongAsItTakes(Bench b) {
        for (int[] ask : WAITS) {
            behind(b, ONE, NOTHING, ask, -1);
            b.is(name(ask, -1), b.x.state(0, 0, 0), 2);
            b.is(name(ask, -1), b.x.state(0, 0, 4), -1);
            for (int n = 0; n < 10; n++) {
                b.is("waits", b.x.run(500), 0);
            }
        }
    }

    // CALLS: "others: 1 (looked at in any case, behind the thing)." Where it would have to wait.
    private static void noTimes(Bench b) {
        for (int[] ask : WAITS) {
            for (int t : NO_TIMES) {
                b.is(name(ask, t), behind(b, ONE, NOTHING, ask, t), 1);
                b.is(name(ask, t), b.x.state(0, 0, 0), 1);
            }
        }
    }

    // CALLS: "others: 1 (looked at in any case, behind the thing)." Where it would not have to wait.
    private static void lookedAtInAnyCase(Bench b) {
        for (int[] ask : NO_WAITS) {
            for (int t : NO_TIMES) {
                b.is(name(ask, t), behind(b, ONE, ALL, ask, t), 1);
                b.is("the semaphore stays", b.x.thing(0, 0, 0), 1);
                b.is("buffer u stays", b.x.thing(0, 2, 0), 0);
                b.is("buffer v stays", b.x.thing(0, 2, 1), 1);
                b.is("the channel stays", b.x.channel(0, 1), 1);
                b.is("no trace", b.x.about(4), 0);
            }
            int[] times = {0, 1, 100000, -1};
            for (int t : times) {
                b.is(name(ask, t), behind(b, ONE, ALL, ask, t), 0);
                b.is(name(ask, t), b.x.state(0, 0, 0), 1);
            }
        }
    }

    // CALLS: "(looked at in any case, behind the thing)." A thing that is none is 1, whatever the time.
    private static void behindTheThing(Bench b) {
        int[][] none = {{8, 1, T, 0}, {8, -1, T, 0}, {12, 1, T, 0}, {12, -1, T, 0}, {13, 2, 9, T}, {13, -1, 9, T}, {14, 2, T, 0},
            {14, -1, T, 0}, {17, 1, T, 0}, {17, -1, T, 0}, {18, 4, 9, T}, {18, -1, 9, T}, {18, 1, 9, T}, {19, 4, T, 0},
            {19, -1, T, 0}, {19, 0, T, 0}};
        int[] times = {-2, -1, 0, 1, 100000, 100001};
        for (int[] ask : none) {
            for (int t : times) {
                b.is(name(ask, t), behind(b, ONE, NOTHING, ask, t), 1);
            }
        }
    }

    // CALLS: "Who WAITS for a thing has its answer when it is READY again (x10 stays till then)"
    private static void answerWhenReadyAgain(Bench b) {
        for (int[] ask : WAITS) {
            behind(b, ONE, NOTHING, ask, 3);
            for (int n = 0; n < 3; n++) {
                b.isRegister(name(ask, 3), 0, 10, ask[1] == T ? 3 : ask[1]);
                b.isRegister(name(ask, 3), 0, 11, ask[2] == T ? 3 : ask[2]);
                b.x.run(1);
            }
            b.isRegister(name(ask, 3), 0, 10, 4);
        }
    }

    // CALLS: "0 if it has what it waited for."
    private static void whatItWaitedFor(Bench b) {
        int[][] waits = {{8, 0, -1, 0}, {12, 0, -1, 0}, {13, 1, 9, -1}, {14, 0, -1, 0}, {17, 0, -1, 0}, {18, 0, 9, -1}, {19, 1, -1, 0},
            {26, -1, 0, 0}};
        int[][] gives = {Bench.ask(9, 0), Bench.ask(10, 0), Bench.ask(14, 1, 0), Bench.ask(13, 0, 77, 0), Bench.ask(15, 0, 77),
            Bench.ask(19, 1, 0), Bench.ask(18, 0, 77, 0), Bench.ask(28, 1)};
        int[] words = {-1, -1, 9, 77, 77, 9, 77, 0};
        for (int i = 0; i < waits.length; i++) {
            b.fresh();
            b.load("partition a { memory 1024; process g { entry 0; priority 1; } process p { entry 256; priority 5; } " + THINGS);
            int[] ahead = waits[i][0] == 19 ? new int[0] : NOTHING;
            b.program(0, 256, Bench.code(ahead, Bench.ask(waits[i][0], waits[i][1], waits[i][2], waits[i][3]), Bench.STAY));
            b.program(0, 0, Bench.code(gives[i], Bench.STAY));
            b.x.begin();
            b.x.run(ahead.length + 5 + 4);
            b.is("waits " + waits[i][0], b.x.state(0, 1, 0), 2);
            b.x.run(1);
            b.is("READY " + waits[i][0], b.x.state(0, 1, 0), 1);
            b.isRegister("its answer " + waits[i][0], 1, 10, 0);
            b.isRegister("its word " + waits[i][0], 1, 11, words[i]);
            b.isRegister("the giver's answer " + waits[i][0], 0, 10, 0);
            b.is("who was waited for is next", b.x.partition(0, 10), 1);
        }
    }

    // CALLS: "Who would have to wait in a LOCKED partition, or is the handler: 3 in the stead of waiting." LOCKED.
    private static void lockedOnesDoNotWait(Bench b) {
        int[] times = {1, 100000, -1};
        for (int[] ask : WAITS) {
            for (int t : times) {
                b.is("LOCKED, " + name(ask, t), behind(b, ONE, Bench.code(NOTHING, LOCK), ask, t), 3);
                b.is("it goes on", b.x.state(0, 0, 0), 1);
                b.is("LOCKED still", b.x.partition(0, 9), 1);
            }
            b.is("LOCKED, " + name(ask, 0), behind(b, ONE, Bench.code(NOTHING, LOCK), ask, 0), 2);
            b.is("LOCKED, " + name(ask, -2), behind(b, ONE, Bench.code(NOTHING, LOCK), ask, -2), 1);
        }
        int[] sleep = {2, T, 0, 0};
        b.is("2 where LOCKED", behind(b, ONE, LOCK, sleep, 1), 3);
        b.is("2 where LOCKED", behind(b, ONE, LOCK, sleep, 100000), 3);
        b.is("2 where LOCKED, and no number", behind(b, ONE, LOCK, sleep, 0), 1);
        String periodic = ONE.replace("priority 5;", "priority 5; period 50; deadline 40;");
        b.is("1 where LOCKED", behind(b, periodic, LOCK, new int[] {1, 0, 0, 0}, 0), 3);
        b.isState("nothing is changed", 0, 0, 1, 300, 5, 40, -1, 11, 0);
    }

    // CALLS: "Who would have to wait in a LOCKED partition, or is the handler: 3 in the stead of waiting." The handler.
    private static void handlersDoNotWait(Bench b) {
        int[] times = {1, 100000, -1};
        for (int[] ask : WAITS) {
            for (int t : times) {
                b.is("handler, " + name(ask, t), behind(b, HANDLER, NOTHING, ask, t), 3);
                b.is("it goes on", b.x.state(0, 1, 0), 1);
            }
            b.is("handler, " + name(ask, 0), behind(b, HANDLER, NOTHING, ask, 0), 2);
            b.is("handler, " + name(ask, -2), behind(b, HANDLER, NOTHING, ask, -2), 1);
        }
        int[] sleep = {2, T, 0, 0};
        b.is("2 by the handler", behind(b, HANDLER, new int[0], sleep, 1), 3);
        b.is("2 by the handler, and no number", behind(b, HANDLER, new int[0], sleep, 100001), 1);
        b.is("1 by the handler", behind(b, HANDLER, new int[0], new int[] {1, 0, 0, 0}, 0), 3);
        b.alone("process p { entry 0; priority 5; } process h { entry 256; priority 0; period 50; deadline 40; handler; }"
                + " errors { illegal : handle; }");
        b.program(0, 256, Bench.code(Bench.ask(1), Bench.STAY));
        b.x.begin();
        b.x.run(6);
        b.isRegister("1 by a handler with a period", 1, 10, 3);
        b.isState("nothing is changed", 0, 1, 1, 276, 0, 40, -1, 5, 0, 1);
    }

    // CALLS: "Who would have to wait in a LOCKED partition, or is the handler: 3" Who would not have to has it.
    private static void whoNeedNotWait(Bench b) {
        for (int[] ask : NO_WAITS) {
            b.is("LOCKED, " + name(ask, -1), behind(b, ONE, Bench.code(ALL, LOCK), ask, -1), 0);
            b.is("handler, " + name(ask, -1), behind(b, HANDLER, ALL, ask, -1), 0);
        }
    }

    /** l, of the lowest priority, waits first (once it has filled what it waits at), then m, then n; g serves them: TRACE tells. */
    private static void turns(Bench b, String things, int[] wait, int[] give, boolean fifo, boolean fills) {
        b.fresh();
        b.load("partition a { memory 1024; process l { entry 0; priority 2; } process m { entry 256; priority 7; delay 20; }"
                + " process n { entry 512; priority 7; delay 40; } process g { entry 768; priority 1; delay 60; } port y out sampling; "
                + things + " channel sampling 0 { a.y > output } frame { a 10; }");
        for (int i = 0; i < 3; i++) {
            b.program(0, 256 * i, Bench.code(i == 0 && fills ? wait : new int[0], wait, Bench.ask(18, 0, 100 + i), Bench.ask(0)));
        }
        b.program(0, 768, Bench.code(give, Bench.jump(0, -4 * give.length)));
        b.x.begin();
        b.x.run(60);
        b.is("none is served yet", b.x.about(4), 0);
        b.x.run(100);
        b.is("all are served", b.x.about(4), 3);
        int[] order = fifo ? new int[] {100, 101, 102} : new int[] {101, 102, 100};
        for (int k = 0; k < 3; k++) {
            b.is("in their turn", b.x.trace(k, 2), order[k]);
        }
    }

    // CALLS: "Waiting ones come in their turn: the greatest priority, the first one to wait of these; for a semaphore, buffer
    // or channel of fifo the first one to wait." Semaphores.
    private static void turnsOfSemaphores(Bench b) {
        turns(b, "semaphore s 0 : 9; }", Bench.ask(8, 0, -1), Bench.ask(9, 0), false, false);
        turns(b, "semaphore s 0 : 9 fifo; }", Bench.ask(8, 0, -1), Bench.ask(9, 0), true, false);
    }

    // CALLS: "Waiting ones come in their turn: the greatest priority, the first one to wait of these; for a semaphore, buffer
    // or channel of fifo the first one to wait." Buffers, to take and to put.
    private static void turnsOfBuffers(Bench b) {
        turns(b, "buffer u 1; }", Bench.ask(14, 0, -1), Bench.ask(13, 0, 5, 0), false, false);
        turns(b, "buffer u 1 fifo; }", Bench.ask(14, 0, -1), Bench.ask(13, 0, 5, 0), true, false);
        turns(b, "buffer u 1; }", Bench.ask(13, 0, 5, -1), Bench.ask(14, 0, 0), false, true);
        turns(b, "buffer u 1 fifo; }", Bench.ask(13, 0, 5, -1), Bench.ask(14, 0, 0), true, true);
    }

    // CALLS: "Waiting ones come in their turn: the greatest priority, the first one to wait of these; for a semaphore, buffer
    // or channel of fifo the first one to wait." Channels, to take and to put.
    private static void turnsOfChannels(Bench b) {
        String ports = "port q in queuing; port r out queuing; } channel queuing 1 ";
        turns(b, ports + "{ a.r > a.q }", Bench.ask(19, 1, -1), Bench.ask(18, 2, 5, 0), false, false);
        turns(b, ports + "fifo { a.r > a.q }", Bench.ask(19, 1, -1), Bench.ask(18, 2, 5, 0), true, false);
        turns(b, ports + "{ a.r > a.q }", Bench.ask(18, 2, 5, -1), Bench.ask(19, 1, 0), false, true);
        turns(b, ports + "fifo { a.r > a.q }", Bench.ask(18, 2, 5, -1), Bench.ask(19, 1, 0), true, true);
    }

    // CALLS: "the greatest priority, the first one to wait of these" Whatever their numbers, and whoever was READY first.
    private static void turnsOfOnePriority(Bench b) {
        b.alone("process k { entry 0; priority 5; delay 20; } process l { entry 0; priority 5; } process m { entry 0; priority 5;"
                + " delay 10; } process g { entry 256; priority 4; delay 40; } semaphore s 0 : 9;");
        b.program(0, 0, Bench.code(Bench.ask(8, 0, -1), Bench.STAY));
        b.program(0, 256, Bench.code(Bench.set(17, 9), Bench.CALL, Bench.STAY));
        b.x.begin();
        b.x.run(42);
        b.is("l waited first", b.x.state(0, 1, 0), 1);
        b.is("m waits", b.x.state(0, 2, 0), 2);
        b.is("k waits", b.x.state(0, 0, 0), 2);
        for (int fifo = 0; fifo < 2; fifo++) {
            // l is READY first, but m, of a greater priority, waits first; then l gives m its own priority, and waits, too
            b.alone("process l { entry 0; priority 5; } process m { entry 512; priority 9; delay 2; } process g { entry 256; priority 1;"
                    + " delay 40; } semaphore s 0 : 9 " + (fifo == 1 ? "fifo;" : ";"));
            b.program(0, 0, Bench.code(Bench.ask(5, 1, 5), Bench.ask(8, 0, -1), Bench.STAY));
            b.program(0, 512, Bench.code(Bench.ask(8, 0, -1), Bench.STAY));
            b.program(0, 256, Bench.code(Bench.set(17, 9), Bench.CALL, Bench.STAY));
            b.x.begin();
            b.x.run(40);
            b.is("both wait", b.x.waiting(0, 0, 0), 2);
            b.is("one priority", b.x.state(0, 1, 2), 5);
            b.x.run(2);
            b.is("m waited first", b.x.state(0, 1, 0), 1);
            b.is("l waits", b.x.state(0, 0, 0), 2);
        }
    }
}
