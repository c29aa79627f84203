/** Edges of promises 10 to 22: what can be asked. Above each test stands the sentence that it is of. */
public final class EdgeLookTest {
    private static final int LOWEST = Integer.MIN_VALUE;
    private static final int HIGHEST = Integer.MAX_VALUE;
    private static final String P = "process p { entry 0; priority 5; } ";
    /** Two partitions, the first with one of each sort. */
    private static final String EACH = "partition a { memory 256; regions { 64 code; 192 all; } process p { entry 0; priority 5; }"
            + " semaphore s 3 : 9; event e; buffer u 2; board o; port i in sampling; port q in queuing; } partition b { memory 512; }"
            + " channel sampling 7 { input > a.i, output } channel queuing 2 { input > a.q } frame { a 3; b 2; }";

    public static void main(String[] args) {
        Bench b = new Bench();
        peeks(b);
        peeksOfNone(b);
        registers(b);
        registersOfNone(b);
        statesOfNone(b);
        statesOfAnotherWhat(b);
        statesAheadOfBegin(b);
        statesWithoutTimes(b);
        howManyItDid(b);
        partitionsOfNone(b);
        partitionsOfAnotherWhat(b);
        partitionsAheadOfBegin(b);
        whoIsNext(b);
        things(b);
        thingsOfNone(b);
        waitingOnes(b);
        waitingOfNone(b);
        regions(b);
        wordsOfNone(b);
        words(b);
        channelsOfNone(b);
        channels(b);
        wordsAtNone(b);
        traceOfNone(b);
        traceKeepsTheFirst(b);
        errorsOfNone(b);
        anyCode(b);
        aboutNothing(b);
        aboutAnotherWhat(b);
        aboutWindows(b);
        b.finish();
    }

    private static void each(Bench b) {
        b.fresh();
        b.load(EACH);
    }

    // Promise 10: "A word of a partition's memory as it is (ahead of begin() its image); 0 if there is none such."
    private static void peeks(Bench b) {
        b.alone(P);
        b.program(0, 0, Bench.set(5, 9), Bench.store(2, 5, 0, 1020));
        b.x.image(0, 1020, -7);
        b.is("its image", b.x.peek(0, 1020), -7);
        b.x.begin();
        b.is("the first word", b.x.peek(0, 0), Bench.set(5, 9));
        b.is("the last word", b.x.peek(0, 1020), -7);
        b.x.run(2);
        b.is("as it is", b.x.peek(0, 1020), 9);
    }

    // Promise 10: "0 if there is none such."
    private static void peeksOfNone(Bench b) {
        b.fresh();
        b.is("no configuration", b.x.peek(0, 0), 0);
        each(b);
        for (int place = 0; place < 256; place += 4) {
            b.x.image(0, place, -1);
        }
        int[][] none = {{-1, 0}, {2, 0}, {16, 0}, {LOWEST, 0}, {HIGHEST, 0}, {0, -4}, {0, -1}, {0, 1}, {0, 2}, {0, 3}, {0, 253}, {0, 255},
            {0, 256}, {0, 260}, {0, LOWEST}, {0, HIGHEST}, {0, HIGHEST - 3}};
        for (int begun = 0; begun < 2; begun++) {
            for (int[] at : none) {
                b.is("peek(" + at[0] + ", " + at[1] + ")", b.x.peek(at[0], at[1]), 0);
            }
            b.is("the last one", b.x.peek(0, 252), -1);
            if (begun == 0) {
                b.x.begin();
            }
        }
    }

    // Promise 11: "A register of a process; 0 if there is none such."
    private static void registers(Bench b) {
        b.alone(P);
        b.program(0, 0, Bench.set(0, -1), Bench.set(1, -1), Bench.set(31, -2));
        b.is("ahead of begin()", b.x.register(0, 0, 31), 0);
        b.x.begin();
        b.x.run(3);
        b.is("x0", b.x.register(0, 0, 0), 0);
        b.is("x1", b.x.register(0, 0, 1), -1);
        b.is("x31", b.x.register(0, 0, 31), -2);
    }

    // Promise 11: "0 if there is none such."
    private static void registersOfNone(Bench b) {
        b.fresh();
        b.is("no configuration", b.x.register(0, 0, 1), 0);
        b.alone(P);
        b.program(0, 0, Bench.set(1, -1), Bench.set(31, -1));
        b.x.begin();
        b.x.run(2);
        int[][] none = {{0, 0, -1}, {0, 0, 32}, {0, 0, LOWEST}, {0, 0, HIGHEST}, {0, -1, 1}, {0, 1, 1}, {0, 16, 1}, {0, LOWEST, 1},
            {0, HIGHEST, 1}, {-1, 0, 1}, {1, 0, 1}, {16, 0, 1}, {LOWEST, 0, 1}, {HIGHEST, 0, 1}};
        for (int[] at : none) {
            b.is("register", b.x.register(at[0], at[1], at[2]), 0);
        }
    }

    // Promise 12: "NONE if there is none such, or for another what." There is none such.
    private static void statesOfNone(Bench b) {
        b.fresh();
        int[][] none = {{-1, 0}, {2, 0}, {16, 0}, {LOWEST, 0}, {HIGHEST, 0}, {0, -1}, {0, 1}, {0, 16}, {0, LOWEST}, {0, HIGHEST}, {1, 0}};
        for (int what = 0; what < 9; what++) {
            b.fresh();
            b.is("no configuration", b.x.state(0, 0, what), -1);
            each(b);
            for (int[] at : none) {
                b.is("state", b.x.state(at[0], at[1], what), -1);
            }
        }
        b.alone(Bench.times(16, "process p# { entry 0; priority #; } "));
        b.is("the last of sixteen", b.x.state(0, 15, 2), 15);
        b.is("no 17th", b.x.state(0, 16, 2), -1);
    }

    // Promise 12: "NONE if there is none such, or for another what." Another what.
    private static void statesOfAnotherWhat(Bench b) {
        each(b);
        b.x.begin();
        int[] others = {-1, 9, 10, LOWEST, HIGHEST};
        for (int what : others) {
            b.is("state " + what, b.x.state(0, 0, what), -1);
        }
        b.is("the last what", b.x.state(0, 0, 8), 0);
    }

    // Promise 12: "(Ahead of begin(): DORMANT, PC and RELEASE 0; things as when a partition begins.)"
    private static void statesAheadOfBegin(Bench b) {
        b.alone("process p { entry 1020; priority 15; period 9; deadline 8; delay 7; } process h { entry 4; priority 0; handler; }"
                + " semaphore s 100 : 100; semaphore t 0 : 1; event e; buffer u 16; board o;");
        b.isState("p", 0, 0, 0, 0, 15, -1, -1, 0, 0, 0, 0);
        b.isState("h", 0, 1, 0, 0, 0, -1, -1, 0, 0, 1, 0);
        int[] values = {100, 0, 0, 0};
        for (int sort = 0; sort < 4; sort++) {
            b.is("thing of sort " + sort, b.x.thing(0, sort, 0), values[sort]);
            b.is("nobody waits", b.x.waiting(0, sort, 0), 0);
        }
        b.is("the other semaphore", b.x.thing(0, 0, 1), 0);
        b.x.begin();
        b.isState("p", 0, 0, 2, 1020, 15, 15, 7, 0, 7, 0, 0);
        b.isState("h", 0, 1, 0, 0, 0, -1, -1, 0, 0, 1, 0);
    }

    // Promise 12: "DUE (3; NONE), until when it WAITS (4; NONE without such a time)"
    private static void statesWithoutTimes(Bench b) {
        b.asked(P + "semaphore s 0 : 1;", 8, 0, -1, 0);
        b.is("no DUE", b.x.state(0, 0, 3), -1);
        b.is("WAITS", b.x.state(0, 0, 0), 2);
        b.is("without such a time", b.x.state(0, 0, 4), -1);
        b.asked(P + "semaphore s 0 : 1;", 8, 0, 100000, 0);
        b.is("until", b.x.state(0, 0, 4), 100008);
        b.asked(P + "semaphore s 1 : 1;", 8, 0, 100000, 0);
        b.is("READY", b.x.state(0, 0, 4), -1);
    }

    // Promise 12: "how many instructions it did (5)"
    private static void howManyItDid(Bench b) {
        b.alone("process p { entry 0; priority 5; } process q { entry 512; priority 1; } errors { illegal : warm; }");
        b.program(0, 0, Bench.set(5, 1), Bench.set(6, 2));
        b.x.begin();
        b.is("none", b.x.state(0, 0, 5), 0);
        b.x.run(3);
        b.is("also such as went wrong, and through a beginning", b.x.state(0, 0, 5), 3);
        b.x.run(300);
        b.is("all of them", b.x.state(0, 0, 5), 303);
        b.is("the other none", b.x.state(0, 1, 5), 0);
    }

    // Promise 13: "NONE if there is none such, or for another what." There is none such.
    private static void partitionsOfNone(Bench b) {
        int[] none = {-1, 2, 16, LOWEST, HIGHEST};
        for (int what = 0; what < 14; what++) {
            b.fresh();
            b.is("no configuration", b.x.partition(0, what), -1);
            each(b);
            for (int p : none) {
                b.is("partition " + p, b.x.partition(p, what), -1);
            }
        }
    }

    // Promise 13: "NONE if there is none such, or for another what." Another what.
    private static void partitionsOfAnotherWhat(Bench b) {
        each(b);
        int[] others = {-1, 14, 15, LOWEST, HIGHEST};
        for (int what : others) {
            b.is("partition what " + what, b.x.partition(0, what), -1);
        }
        b.is("the last what", b.x.partition(0, 13), 0);
    }

    // Promise 13: "how it began last (11; NONE ahead of begin())"
    private static void partitionsAheadOfBegin(Bench b) {
        each(b);
        int[] wants = {0, 256, 1, 1, 1, 1, 1, 2, 0, 0, -1, -1, 2, 0};
        for (int what = 0; what < 14; what++) {
            b.is("ahead of begin(), " + what, b.x.partition(0, what), wants[what]);
        }
        b.x.begin();
        wants[8] = 1;
        wants[10] = 0;
        wants[11] = 0;
        for (int what = 0; what < 14; what++) {
            b.is("behind begin(), " + what, b.x.partition(0, what), wants[what]);
        }
        int[] empty = {0, 512, 0, 0, 0, 0, 0, 0, 1, 0, -1, 0, 1, 0};
        for (int what = 0; what < 14; what++) {
            b.is("of an empty one, " + what, b.x.partition(1, what), empty[what]);
        }
    }

    // Promise 13: "who would do the next instruction by what is READY and not HELD now (10; NONE)"
    private static void whoIsNext(Bench b) {
        b.alone("process p { entry 0; priority 5; delay 1; } process q { entry 512; priority 5; stopped; } ");
        b.program(0, 0, Bench.STAY);
        b.x.begin();
        b.is("none", b.x.partition(0, 10), -1);
        b.x.run(1);
        b.is("its time is there, but it is not READY yet", b.x.partition(0, 10), -1);
        b.x.run(1);
        b.is("READY", b.x.partition(0, 10), 0);
        b.fresh();
        b.load("partition a { memory 256; } partition b { memory 256; " + P + "} frame { a 9; b 1; }");
        b.x.begin();
        b.is("whosever window it is", b.x.partition(1, 10), 0);
    }

    // Promise 14: "the count; 1 up, 0 down; how many words; 1 if it shows something, else 0; its channel, or NONE."
    private static void things(Bench b) {
        each(b);
        int[] wants = {3, 0, 0, 0, 0};
        for (int sort = 0; sort < 5; sort++) {
            b.is("sort " + sort, b.x.thing(0, sort, 0), wants[sort]);
        }
        b.is("the other channel", b.x.thing(0, 4, 1), 1);
        b.alone("port i in sampling; ");
        b.is("no channel", b.x.thing(0, 4, 0), -1);
        b.alone(P + "event e; buffer u 16; board o; ");
        b.program(0, 0, Bench.code(Bench.ask(10, 0), Bench.ask(15, 0, 0), Bench.set(10, 0), Bench.set(17, 13), Bench.CALL,
                Bench.jump(0, -12)));
        b.x.begin();
        b.x.run(100);
        b.is("up", b.x.thing(0, 1, 0), 1);
        b.is("shows a 0", b.x.thing(0, 3, 0), 1);
        b.is("full", b.x.thing(0, 2, 0), 16);
    }

    // Promise 14: "NONE if there is none such."
    private static void thingsOfNone(Bench b) {
        b.fresh();
        int[][] none = {{-1, 0, 0}, {2, 0, 0}, {LOWEST, 0, 0}, {HIGHEST, 0, 0}, {0, -1, 0}, {0, 5, 0}, {0, 6, 0}, {0, LOWEST, 0},
            {0, HIGHEST, 0}, {1, 0, 0}, {1, 1, 0}, {1, 2, 0}, {1, 3, 0}, {1, 4, 0}, {0, 0, 1}, {0, 1, 1}, {0, 2, 1}, {0, 3, 1}, {0, 4, 2},
            {0, 0, -1}, {0, 1, -1}, {0, 2, -1}, {0, 3, -1}, {0, 4, -1}, {0, 0, 8}, {0, 3, 8}, {0, 4, 16}, {0, 0, LOWEST}, {0, 4, HIGHEST}};
        b.is("no configuration", b.x.thing(0, 0, 0), -1);
        b.is("no configuration", b.x.waiting(0, 0, 0), -1);
        each(b);
        for (int[] at : none) {
            b.is("thing(" + at[0] + ", " + at[1] + ", " + at[2] + ")", b.x.thing(at[0], at[1], at[2]), -1);
        }
    }

    // Promise 15: "How many of a partition WAIT for its thing k of a sort (to put or to take; of a port as 33 counts)"
    private static void waitingOnes(Bench b) {
        int[] calls = {8, 12, 14, 17};
        for (int sort = 0; sort < 4; sort++) {
            b.alone(Bench.times(16, "process p# { entry 0; priority 5; } ") + "semaphore r 0 : 1; semaphore s 0 : 1; event d; event e;"
                    + " buffer t 1; buffer u 1; board n; board o; ");
            b.program(0, 0, Bench.ask(calls[sort], 1, -1));
            b.x.begin();
            b.is("none", b.x.waiting(0, sort, 1), 0);
            b.x.run(5);
            b.is("one", b.x.waiting(0, sort, 1), 1);
            b.x.run(75);
            b.is("all sixteen", b.x.waiting(0, sort, 1), 16);
            b.is("none for the other", b.x.waiting(0, sort, 0), 0);
            b.is("none of another sort", b.x.waiting(0, (sort + 1) % 4, 1), 0);
        }
        b.alone(Bench.times(16, "process p# { entry 0; priority 5; } ") + "buffer u 1; ");
        b.program(0, 0, Bench.code(Bench.ask(13, 0, 7, -1), Bench.ask(0)));
        b.x.begin();
        b.x.run(10 + 75);
        b.is("one need not, fifteen wait to put", b.x.waiting(0, 2, 0), 15);
    }

    // Promise 15: "NONE if there is none such."
    private static void waitingOfNone(Bench b) {
        each(b);
        int[][] none = {{-1, 0, 0}, {2, 0, 0}, {0, -1, 0}, {0, 5, 0}, {0, 0, 1}, {0, 1, 1}, {0, 2, 1}, {0, 3, 1}, {0, 4, 2}, {0, 0, -1},
            {0, 4, -1}, {1, 0, 0}, {1, 4, 0}, {LOWEST, 0, 0}, {0, HIGHEST, 0}, {0, 0, HIGHEST}, {0, 4, LOWEST}};
        for (int[] at : none) {
            b.is("waiting(" + at[0] + ", " + at[1] + ", " + at[2] + ")", b.x.waiting(at[0], at[1], at[2]), -1);
        }
        for (int sort = 0; sort < 5; sort++) {
            b.is("nobody waits", b.x.waiting(0, sort, 0), 0);
        }
    }

    // Promise 16: "its first place (what = 0), how many bytes (1), its SORT (2: 0 code, 1 data, 2 table, 3 all). NONE if there
    // is none such, or for another what."
    private static void regions(Bench b) {
        b.fresh();
        b.is("no configuration", b.x.region(0, 0, 0), -1);
        each(b);
        int[][] wants = {{0, 64, 0}, {64, 192, 3}};
        for (int k = 0; k < 2; k++) {
            for (int what = 0; what < 3; what++) {
                b.is("region", b.x.region(0, k, what), wants[k][what]);
            }
        }
        int[][] none = {{0, 2, 0}, {0, -1, 0}, {0, 6, 0}, {0, LOWEST, 0}, {0, HIGHEST, 0}, {0, 0, -1}, {0, 0, 3}, {0, 0, LOWEST},
            {0, 0, HIGHEST}, {-1, 0, 0}, {2, 0, 0}, {LOWEST, 0, 0}, {HIGHEST, 0, 0}, {1, 1, 0}};
        for (int[] at : none) {
            b.is("region", b.x.region(at[0], at[1], at[2]), -1);
        }
        b.fresh();
        b.load("partition a { memory 8192; regions { " + Bench.times(5, "64 data; ") + "7872 table; } } frame { a 1; }");
        b.is("the sixth", b.x.region(0, 5, 0), 320);
        b.is("the sixth", b.x.region(0, 5, 1), 7872);
        b.is("the sixth", b.x.region(0, 5, 2), 2);
        b.is("no seventh", b.x.region(0, 6, 0), -1);
    }

    // Promise 17: "Word i of buffer k, or what board k shows (i = 0; sort 2, 3); 0 if there is none such."
    private static void words(Bench b) {
        b.alone(P + "buffer t 2; buffer u 16; board n; board o; ");
        b.program(0, 0, Bench.code(Bench.ask(15, 1, -9), Bench.set(17, 13), Bench.set(10, 1), Bench.withNumber(0, 11, 11, 1), Bench.CALL,
                Bench.jump(0, -12)));
        b.x.begin();
        b.x.run(100);
        for (int i = 0; i < 16; i++) {
            b.is("word " + i, b.x.wordOf(0, 2, 1, i), i - 8);
        }
        b.is("the board", b.x.wordOf(0, 3, 1, 0), -9);
    }

    // Promise 17: "0 if there is none such."
    private static void wordsOfNone(Bench b) {
        b.fresh();
        b.is("no configuration", b.x.wordOf(0, 2, 0, 0), 0);
        b.alone(P + "semaphore s 1 : 1; event e; buffer t 1; buffer u 2; board n; board o; port i in sampling; ");
        b.program(0, 0, Bench.code(Bench.ask(10, 0), Bench.ask(13, 0, -1, 0), Bench.ask(13, 1, -1, 0), Bench.ask(15, 0, -1), Bench.STAY));
        b.x.begin();
        b.x.run(20);
        b.is("a word", b.x.wordOf(0, 2, 0, 0), -1);
        b.is("a word", b.x.wordOf(0, 3, 0, 0), -1);
        int[][] none = {{0, 2, 0, 1}, {0, 2, 0, -1}, {0, 2, 1, 1}, {0, 2, 1, 2}, {0, 2, 0, LOWEST}, {0, 2, 0, HIGHEST}, {0, 2, 2, 0}, {0, 2, -1, 0},
            {0, 3, 0, 1}, {0, 3, 0, -1}, {0, 3, 1, 0}, {0, 3, 2, 0}, {0, 3, -1, 0}, {0, 0, 0, 0}, {0, 1, 0, 0}, {0, 4, 0, 0}, {0, 5, 0, 0},
            {0, -1, 0, 0}, {1, 2, 0, 0}, {-1, 2, 0, 0}, {LOWEST, 2, 0, 0}, {0, HIGHEST, 0, 0}, {0, 2, HIGHEST, 0}, {0, 3, 0, HIGHEST}};
        for (int[] at : none) {
            b.is("wordOf(" + at[0] + ", " + at[1] + ", " + at[2] + ", " + at[3] + ")", b.x.wordOf(at[0], at[1], at[2], at[3]), 0);
        }
    }

    // Promise 18: "1 if it is queuing, else 0 (what = 0), how many words it has (1; sampling 0 or 1), LIMIT or DEPTH (2), when
    // its sampled word came (3; NONE), words lost (4), goals (5)."
    private static void channels(Bench b) {
        each(b);
        b.x.input(0, 0, 1);
        b.x.input(0, 4, 2);
        for (int t = 0; t < 5; t++) {
            b.x.input(1, t, t);
        }
        int[][] ahead = {{0, 0, 7, -1, 0, 2}, {1, 0, 2, -1, 0, 1}};
        int[][] behind = {{0, 1, 7, 4, 0, 2}, {1, 2, 2, -1, 3, 1}};
        for (int c = 0; c < 2; c++) {
            for (int what = 0; what < 6; what++) {
                b.is("ahead, channel " + c + ", " + what, b.x.channel(c, what), ahead[c][what]);
            }
        }
        b.x.begin();
        b.x.run(1);
        b.is("it came at 0", b.x.channel(0, 3), 0);
        b.is("one word", b.x.channel(0, 1), 1);
        b.x.run(4);
        for (int c = 0; c < 2; c++) {
            for (int what = 0; what < 6; what++) {
                b.is("behind, channel " + c + ", " + what, b.x.channel(c, what), behind[c][what]);
            }
        }
    }

    // Promise 18: "NONE if there is none such, or for another what."
    private static void channelsOfNone(Bench b) {
        int[] none = {-1, 2, 24, LOWEST, HIGHEST};
        int[] others = {-1, 6, 7, LOWEST, HIGHEST};
        for (int what = 0; what < 6; what++) {
            b.fresh();
            b.is("no configuration", b.x.channel(0, what), -1);
            each(b);
            for (int c : none) {
                b.is("channel " + c, b.x.channel(c, what), -1);
            }
        }
        for (int what : others) {
            b.is("channel what " + what, b.x.channel(0, what), -1);
            b.is("channel what " + what, b.x.channel(1, what), -1);
        }
    }

    // Promise 19: "Word i of a channel, the first to go first; 0 if there is none."
    private static void wordsAtNone(Bench b) {
        b.fresh();
        b.is("no configuration", b.x.wordAt(0, 0), 0);
        each(b);
        b.is("none yet", b.x.wordAt(0, 0), 0);
        b.is("none yet", b.x.wordAt(1, 0), 0);
        b.x.input(0, 0, -5);
        b.x.input(1, 0, -1);
        b.x.input(1, 1, -2);
        b.x.input(1, 2, -3);
        b.x.begin();
        b.x.run(3);
        b.is("sampled", b.x.wordAt(0, 0), -5);
        b.is("the first to go", b.x.wordAt(1, 0), -1);
        b.is("the second", b.x.wordAt(1, 1), -2);
        int[][] none = {{0, 1}, {0, -1}, {1, 2}, {1, -1}, {1, LOWEST}, {1, HIGHEST}, {2, 0}, {-1, 0}, {24, 0}, {LOWEST, 0}, {HIGHEST, 0}};
        for (int[] at : none) {
            b.is("wordAt(" + at[0] + ", " + at[1] + ")", b.x.wordAt(at[0], at[1]), 0);
        }
    }

    // Promise 20: "NONE if there is none such, or for another what (but a word may be any int)."
    private static void traceOfNone(Bench b) {
        b.fresh();
        for (int what = -1; what < 4; what++) {
            b.is("no configuration", b.x.trace(0, what), -1);
        }
        int[] words = {-1, 0, LOWEST, HIGHEST};
        for (int word : words) {
            each(b);
            b.x.input(0, 1, word);
            b.x.begin();
            b.x.run(1);
            b.is("empty", b.x.trace(0, 0), -1);
            b.x.run(1);
            b.isTrace("any int", 0, 1, 0, word);
            int[] none = {-1, 1, 300, LOWEST, HIGHEST};
            for (int k : none) {
                for (int what = 0; what < 3; what++) {
                    b.is("trace " + k, b.x.trace(k, what), -1);
                }
            }
            int[] others = {-1, 3, 4, LOWEST, HIGHEST};
            for (int what : others) {
                b.is("trace what " + what, b.x.trace(0, what), -1);
            }
        }
    }

    // Promise 20: "Of the k-th of the TRACE, the first is 0, the first 300 are kept" and promise 22: "TRACE in all (4)"
    private static void traceKeepsTheFirst(Bench b) {
        b.fresh();
        b.load("partition a { memory 256; " + P + "port o out queuing; } channel queuing 1 { a.o > output } frame { a 9; }");
        b.program(0, 0, Bench.set(17, 18), Bench.CALL, Bench.withNumber(0, 11, 11, 1), Bench.jump(0, -8));
        b.x.begin();
        b.x.run(500);
        b.x.run(397);
        b.is("299", b.x.about(4), 299);
        b.is("the 300th is not there", b.x.trace(299, 0), -1);
        b.x.run(3);
        b.is("300", b.x.about(4), 300);
        b.isTrace("the 300th", 299, 1 + 3 * 299, 0, 299);
        b.is("no 301st", b.x.trace(300, 0), -1);
        b.x.run(300);
        b.is("in all", b.x.about(4), 400);
        b.isTrace("the first", 0, 1, 0, 0);
        b.isTrace("the 300th", 299, 898, 0, 299);
        b.is("no 301st", b.x.trace(300, 0), -1);
        b.is("no 400th", b.x.trace(399, 2), -1);
    }

    // Promise 21: "NONE if there is none such, or for another what (but a CODE may be any int)."
    private static void errorsOfNone(Bench b) {
        b.fresh();
        for (int what = -1; what < 7; what++) {
            b.is("no configuration", b.x.error(0, what), -1);
        }
        b.alone(P);
        b.x.begin();
        b.is("none yet", b.x.error(0, 0), -1);
        b.x.run(2);
        b.isError("the latest", 0, 1, 0, 0, 0, 0, 0);
        b.isError("the one before", 1, 0, 0, 0, 0, 0, 0);
        int[] none = {-1, 2, 63, 64, LOWEST, HIGHEST};
        for (int k : none) {
            for (int what = 0; what < 6; what++) {
                b.is("error " + k, b.x.error(k, what), -1);
            }
        }
        int[] others = {-1, 6, 7, LOWEST, HIGHEST};
        for (int what : others) {
            b.is("error what " + what, b.x.error(0, what), -1);
        }
    }

    // Promise 21: "(but a CODE may be any int)"
    private static void anyCode(Bench b) {
        int[] codes = {-1, 0, LOWEST, HIGHEST};
        for (int code : codes) {
            b.asked(P, 20, code, 0, 0);
            b.is("CODE", b.x.error(0, 5), code);
        }
    }

    // Promise 22: "partitions, channels, windows, channels from input, to output (5 .. 9; 0 without a configuration)."
    private static void aboutNothing(Bench b) {
        b.fresh();
        int[] wants = {0, 0, 0, -1, 0, 0, 0, 0, 0, 0};
        for (int what = 0; what < 10; what++) {
            b.is("about " + what, b.x.about(what), wants[what]);
        }
        each(b);
        int[] loaded = {0, 0, 0, -1, 0, 2, 2, 2, 2, 1};
        for (int what = 0; what < 10; what++) {
            b.is("about " + what, b.x.about(what), loaded[what]);
        }
        b.x.input(0, 0, 1);
        b.x.begin();
        b.x.run(4);
        int[] later = {4, 3, 3, 1, 1, 2, 2, 2, 2, 1};
        for (int what = 0; what < 10; what++) {
            b.is("about " + what, b.x.about(what), later[what]);
        }
    }

    // Promise 22: "NONE for another what."
    private static void aboutAnotherWhat(Bench b) {
        int[] others = {-1, 10, 11, LOWEST, HIGHEST};
        b.fresh();
        for (int what : others) {
            b.is("about " + what, b.x.about(what), -1);
        }
        each(b);
        b.x.begin();
        for (int what : others) {
            b.is("about " + what, b.x.about(what), -1);
        }
    }

    // Promise 22: "the partition whose window it is now (3; NONE ahead of begin())"
    private static void aboutWindows(Bench b) {
        each(b);
        b.is("ahead of begin()", b.x.about(3), -1);
        b.x.begin();
        for (int t = 0; t < 12; t++) {
            b.is("at " + t, b.x.about(3), t % 5 < 3 ? 0 : 1);
            b.x.run(1);
        }
        b.load(EACH);
        b.is("loaded anew", b.x.about(3), -1);
    }
}
