/** Edges of promises 4 and 6 to 9: load, image, input, begin, run. Above each test stands the sentence that it is of. */
public final class EdgeLoadTest {
    private static final String P = "process p { entry 0; priority 1; } ";
    private static final String ONE = "partition a { memory 256; " + P + "} channel sampling 9 { input > output }"
            + " channel queuing 1 { input > output } frame { a 1; }";
    private static final String TWO = "partition a { memory 256; } partition b { memory 8192; } frame { a 1; b 1; }";

    public static void main(String[] args) {
        Bench b = new Bench();
        textIsEmptyThen(b);
        howManyPartitions(b);
        allIsNew(b);
        nothingIsLeftOfTheOld(b);
        memoriesThatGrow(b);
        smallerQueues(b);
        otherSources(b);
        noConfigurationThen(b);
        imagesAtTheirPlaces(b);
        noSuchImage(b);
        imagesOutOfTime(b);
        inputsAtTheirTimes(b);
        noSuchInput(b);
        timesThatGoBack(b);
        inputsOutOfTime(b);
        sixtyInputs(b);
        beginsCold(b);
        beginsOnce(b);
        howManyTicks(b);
        notSoManyTicks(b);
        runsOutOfTime(b);
        wrongOnesAreCounted(b);
        b.finish();
    }

    // Promise 4: "The text in hand, which is empty then, is the configuration: how many partitions."
    private static void textIsEmptyThen(Bench b) {
        b.fresh();
        b.load(ONE);
        b.is("empty", b.x.end(0), 0);
        b.refuses("an empty text", IllegalArgumentException.class, () -> b.x.load());
        b.is("the end where more must", b.x.fault(0), 1);
        b.is("at 0", b.x.fault(1), 0);
        b.refuses("a fault", IllegalArgumentException.class, () -> b.load("partition !"));
        b.is("empty behind a fault, too", b.x.end(0), 0);
        b.is("a new text", b.load(ONE), 1);
    }

    // Promise 4: "The text in hand, which is empty then, is the configuration: how many partitions."
    private static void howManyPartitions(Bench b) {
        b.fresh();
        b.is("one", b.load(ONE), 1);
        b.is("sixteen", b.load(Bench.times(16, "partition a# { memory 256; } ") + "frame { a3 1; }"), 16);
        b.is("two", b.load(TWO), 2);
        b.is("none left of more", b.x.partition(2, 1), -1);
    }

    // Promise 4: "Images are 0, there are no device inputs, nothing has begun, time is 0, TRACE and errors are empty."
    private static void allIsNew(Bench b) {
        b.fresh();
        b.load(ONE);
        b.x.image(0, 0, -1);
        b.x.image(0, 252, 7);
        b.x.input(0, 3, 1);
        b.x.input(0, 900, 2);
        b.x.begin();
        b.x.run(500);
        b.is("errors", b.x.about(1), 500);
        b.is("trace", b.x.about(4), 1);
        b.load(ONE);
        for (int place = 0; place < 256; place += 4) {
            b.is("image", b.x.peek(0, place), 0);
        }
        int[] wants = {0, 0, 0, -1, 0, 1, 2, 1, 2, 2};
        for (int what = 0; what < 10; what++) {
            b.is("about " + what, b.x.about(what), wants[what]);
        }
        b.is("no error", b.x.error(0, 0), -1);
        b.is("no trace", b.x.trace(0, 0), -1);
        b.is("no word", b.x.channel(0, 1), 0);
        b.is("it did nothing", b.x.partition(0, 13), 0);
        b.refuses("not begun", IllegalStateException.class, () -> b.x.run(1));
        b.x.input(0, 0, 5);
        b.x.begin();
        b.x.run(4);
        b.is("no other input", b.x.about(4), 1);
        b.isTrace("but the new one", 0, 0, 0, 5);
    }

    // Promise 4: "The text in hand, which is empty then, is the configuration" What the one before told is gone with it.
    private static void nothingIsLeftOfTheOld(Bench b) {
        b.fresh();
        b.load("partition a { memory 256; regions { 64 code; 192 data; } process p { entry 0; priority 9; period 9; deadline 8; delay 7; }"
                + " process h { entry 0; priority 9; handler; stopped; } semaphore s 9 : 9; event e; buffer u 1; board o; port i out queuing;"
                + " errors { illegal : idle; memory : idle; late : idle; raised : idle; align : idle; } } partition b { memory 256; }"
                + " channel queuing 1 { a.i > output } frame { b 1; a 1; }");
        b.x.begin();
        b.x.run(100);
        b.is("IDLE", b.x.partition(0, 0), 1);
        b.load("partition a { memory 256; process p { entry 4; priority 1; } process q { entry 8; priority 1; } event e; port i in sampling; }"
                + " frame { a 1; }");
        int[] wants = {0, 256, 2, 0, 1, 0, 0, 1, 0, 0, -1, -1, 1, 0};
        for (int what = 0; what < 14; what++) {
            b.is("partition, " + what, b.x.partition(0, what), wants[what]);
        }
        b.is("no second one", b.x.partition(1, 0), -1);
        b.is("region", b.x.region(0, 0, 2), 3);
        b.is("down", b.x.thing(0, 1, 0), 0);
        b.is("no channel", b.x.thing(0, 4, 0), -1);
        b.x.begin();
        b.isState("no period, deadline, delay", 0, 0, 1, 4, 1, -1, -1, 0, 0, 0, 0);
        b.isState("no handler, not stopped", 0, 1, 1, 8, 1, -1, -1, 0, 0, 0, 0);
        b.x.run(1);
        b.isError("no table: skip", 0, 0, 0, 0, 0, 0, 0);
        // locks of the one before
        b.alone(P);
        b.program(0, 0, Bench.set(17, 21), Bench.CALL);
        b.x.begin();
        b.x.run(2);
        b.is("LOCKED", b.x.partition(0, 9), 1);
        b.load(ONE);
        b.is("no locks", b.x.partition(0, 9), 0);
    }

    // Promise 4: "The text in hand, which is empty then, is the configuration" Its memory may be of any size, whatever it was.
    private static void memoriesThatGrow(Bench b) {
        b.fresh();
        int[] sizes = {256, 512, 1024, 768, 2048, 8192, 256, 4096, 8192};
        for (int size : sizes) {
            b.load("partition a { memory " + size + "; } frame { a 1; }");
            b.is("bytes", b.x.partition(0, 1), size);
            b.is("image", b.x.peek(0, size - 4), 0);
            b.x.image(0, size - 4, size);
            b.is("the last word", b.x.peek(0, size - 4), size);
            b.refuses("no more", IndexOutOfBoundsException.class, () -> b.x.image(0, size, 1));
            b.x.begin();
            b.is("the last word", b.x.peek(0, size - 4), size);
            b.is("no more", b.x.peek(0, size), 0);
        }
    }

    // Promise 4: "The text in hand, which is empty then, is the configuration" Its queues may be shorter than they were.
    private static void smallerQueues(Bench b) {
        b.fresh();
        int[] depths = {16, 2, 3, 1, 5};
        for (int depth : depths) {
            b.load("partition a { memory 256; " + P + "buffer u " + depth + "; port i in queuing; port o out queuing; } channel queuing " + depth
                    + " { a.o > a.i } frame { a 1; }");
            // fills both, then takes one and puts one for ever; x20 is the next word
            b.program(0, 0, Bench.code(Bench.set(17, 13), Bench.set(10, 0), Bench.copy(11, 20), Bench.CALL, Bench.set(17, 18), Bench.set(10, 1),
                    Bench.CALL, Bench.withNumber(0, 20, 20, 1), Bench.set(21, depth), Bench.branch(4, 20, 21, -36), Bench.set(17, 14),
                    Bench.set(10, 0), Bench.set(11, 0), Bench.CALL, Bench.set(17, 19), Bench.set(10, 0), Bench.set(11, 0), Bench.CALL,
                    Bench.jump(0, -72)));
            b.x.begin();
            b.x.run(10 * depth);
            for (int n = 0; n < 13; n++) {
                for (int i = 0; i < depth; i++) {
                    b.is("buffer of " + depth, b.x.wordOf(0, 2, 0, i), n + i);
                    b.is("channel of " + depth, b.x.wordAt(0, i), n + i);
                }
                b.x.run(19);
            }
        }
    }

    // Promise 4: "The text in hand, which is empty then, is the configuration" Its channels come from where it tells.
    private static void otherSources(Bench b) {
        b.fresh();
        String a = "partition a { memory 1024; process p { entry 0; priority 1; } process w { entry 512; priority 5; } port r out queuing;"
                + " port q in queuing; port t in queuing; } ";
        b.load(a + "channel queuing 1 { a.r > a.q } channel queuing 1 { input > a.t } frame { a 1; }");
        b.load(a + "channel queuing 1 { input > a.q } channel queuing 1 { a.r > a.t } frame { a 1; }");
        b.program(0, 512, Bench.code(Bench.ask(18, 0, 1, 0), Bench.ask(18, 0, 2, -1)));
        b.program(0, 0, Bench.code(Bench.ask(19, 1, 0), Bench.STAY));
        b.x.input(0, 0, 77);
        b.x.begin();
        b.x.run(15);
        b.isRegister("the input", 0, 11, 77);
        b.is("nothing comes behind it", b.x.channel(0, 1), 0);
        b.is("who waits at the other channel waits on", b.x.waiting(0, 4, 0), 1);
    }

    // Promise 4: "IllegalArgumentException: a FAULT (there is no configuration then)."
    private static void noConfigurationThen(Bench b) {
        String[] texts = {"", "partition", ONE + ";", ONE.replace("a 1; }", "a 1; "), ONE.replace("a 1;", "b 1;")};
        for (String text : texts) {
            b.fresh();
            b.load(ONE);
            b.x.begin();
            b.x.run(1);
            b.refuses("a fault", IllegalArgumentException.class, () -> b.load(text));
            for (int what = 5; what < 10; what++) {
                b.is("about " + what, b.x.about(what), 0);
            }
            b.is("no window", b.x.about(3), -1);
            b.is("no partition", b.x.partition(0, 0), -1);
            b.is("no channel", b.x.channel(0, 0), -1);
            b.is("no process", b.x.state(0, 0, 0), -1);
            b.refuses("run", IllegalStateException.class, () -> b.x.run(0));
            b.refuses("begin", IllegalStateException.class, () -> b.x.begin());
            b.refuses("image", IllegalStateException.class, () -> b.x.image(0, 0, 0));
            b.refuses("input", IllegalStateException.class, () -> b.x.input(0, 0, 0));
        }
    }

    // Promise 6: "A word of a partition's image. IndexOutOfBoundsException: no such partition, or place (a multiple of 4 within
    // its memory)."
    private static void imagesAtTheirPlaces(Bench b) {
        b.fresh();
        b.load(TWO);
        int[][] places = {{0, 0}, {0, 4}, {0, 252}, {1, 0}, {1, 256}, {1, 8188}};
        for (int i = 0; i < places.length; i++) {
            b.x.image(places[i][0], places[i][1], Integer.MIN_VALUE + i);
        }
        for (int i = 0; i < places.length; i++) {
            b.is("image", b.x.peek(places[i][0], places[i][1]), Integer.MIN_VALUE + i);
        }
        b.x.image(0, 0, -1);
        b.is("the later word", b.x.peek(0, 0), -1);
    }

    // Promise 6: "IndexOutOfBoundsException: no such partition, or place (a multiple of 4 within its memory)."
    private static void noSuchImage(Bench b) {
        b.fresh();
        b.load(TWO);
        int[][] none = {{-1, 0}, {2, 0}, {16, 0}, {Integer.MIN_VALUE, 0}, {Integer.MAX_VALUE, 0}, {0, -4}, {0, -1}, {0, 1},
            {0, 2}, {0, 3}, {0, 253}, {0, 254}, {0, 255}, {0, 256}, {1, 8190}, {1, 8192}, {0, Integer.MIN_VALUE},
            {0, Integer.MAX_VALUE}, {0, Integer.MAX_VALUE - 3}};
        for (int[] at : none) {
            b.refuses("image(" + at[0] + ", " + at[1] + ")", IndexOutOfBoundsException.class,
                    () -> b.x.image(at[0], at[1], 9));
        }
        b.is("nothing changed", b.x.peek(0, 0) + b.x.peek(0, 252) + b.x.peek(1, 8188), 0);
    }

    // Promise 6: "IllegalStateException: it has begun, or there is no configuration (this first)."
    private static void imagesOutOfTime(Bench b) {
        b.fresh();
        b.refuses("no configuration", IllegalStateException.class, () -> b.x.image(0, 0, 1));
        b.refuses("this first", IllegalStateException.class, () -> b.x.image(-1, 1, 1));
        b.load(TWO);
        b.x.begin();
        b.refuses("it has begun", IllegalStateException.class, () -> b.x.image(0, 0, 1));
        b.refuses("this first", IllegalStateException.class, () -> b.x.image(2, 0, 1));
        b.refuses("this first", IllegalStateException.class, () -> b.x.image(0, 2, 1));
        b.is("nothing changed", b.x.peek(0, 0), 0);
    }

    // Promise 7: "A device input: a word that comes at a time to the k-th channel from input."
    private static void inputsAtTheirTimes(Bench b) {
        b.fresh();
        b.load(ONE);
        b.x.input(0, 0, Integer.MIN_VALUE);
        b.x.input(0, 1, -1);
        b.x.input(0, Integer.MAX_VALUE, 1);
        b.x.input(1, 1, Integer.MAX_VALUE);
        b.x.begin();
        b.is("none is there yet", b.x.about(4), 0);
        b.x.run(1);
        b.is("at 0", b.x.about(4), 1);
        b.isTrace("the first", 0, 0, 0, Integer.MIN_VALUE);
        b.x.run(1);
        b.isTrace("the second", 1, 1, 0, -1);
        b.isTrace("of the other channel", 2, 1, 1, Integer.MAX_VALUE);
        b.x.run(500);
        b.is("no more", b.x.about(4), 3);
    }

    // Promise 7: "IndexOutOfBoundsException: no such one."
    private static void noSuchInput(Bench b) {
        b.fresh();
        b.load(ONE);
        int[] none = {-1, 2, 24, Integer.MIN_VALUE, Integer.MAX_VALUE};
        for (int k : none) {
            b.refuses("input(" + k + ")", IndexOutOfBoundsException.class, () -> b.x.input(k, 0, 1));
            b.refuses("ahead of the time", IndexOutOfBoundsException.class, () -> b.x.input(k, -1, 1));
        }
        b.load(TWO);
        b.refuses("there is none", IndexOutOfBoundsException.class, () -> b.x.input(0, 0, 1));
    }

    // Promise 7: "IllegalArgumentException: the time is below 0, or not above that of the latest input of this channel."
    private static void timesThatGoBack(Bench b) {
        b.fresh();
        b.load(ONE);
        b.refuses("-1", IllegalArgumentException.class, () -> b.x.input(0, -1, 1));
        b.refuses("the lowest", IllegalArgumentException.class, () -> b.x.input(0, Integer.MIN_VALUE, 1));
        b.x.input(0, 5, 1);
        b.refuses("the same", IllegalArgumentException.class, () -> b.x.input(0, 5, 1));
        b.refuses("one below", IllegalArgumentException.class, () -> b.x.input(0, 4, 1));
        b.refuses("-1", IllegalArgumentException.class, () -> b.x.input(0, -1, 1));
        b.x.input(1, 0, 1);
        b.x.input(0, 6, 1);
        b.x.input(0, Integer.MAX_VALUE, 1);
        b.refuses("none is above", IllegalArgumentException.class, () -> b.x.input(0, Integer.MAX_VALUE, 1));
        b.x.begin();
        b.x.run(10);
        b.is("those that were refused do not come", b.x.about(4), 3);
    }

    // Promise 7: "IllegalStateException: it has begun, or there is no configuration (these first)"
    private static void inputsOutOfTime(Bench b) {
        b.fresh();
        b.refuses("no configuration", IllegalStateException.class, () -> b.x.input(0, 0, 1));
        b.refuses("this first", IllegalStateException.class, () -> b.x.input(-1, -1, 1));
        b.load(ONE);
        b.x.begin();
        b.refuses("it has begun", IllegalStateException.class, () -> b.x.input(0, 0, 1));
        b.refuses("ahead of no such one", IllegalStateException.class, () -> b.x.input(2, 0, 1));
        b.refuses("ahead of the time", IllegalStateException.class, () -> b.x.input(0, -1, 1));
        b.x.run(2);
        b.is("none came", b.x.about(4), 0);
    }

    // Promise 7: "there are 60 of it (this last)."
    private static void sixtyInputs(Bench b) {
        b.fresh();
        b.load(ONE);
        for (int i = 0; i < 60; i++) {
            b.x.input(0, i, i);
        }
        b.refuses("the 61st", IllegalStateException.class, () -> b.x.input(0, 60, 60));
        b.refuses("the time is ahead", IllegalArgumentException.class, () -> b.x.input(0, 59, 60));
        b.refuses("the time is ahead", IllegalArgumentException.class, () -> b.x.input(0, -1, 60));
        b.refuses("no such one is ahead", IndexOutOfBoundsException.class, () -> b.x.input(2, 60, 60));
        for (int i = 0; i < 60; i++) {
            b.x.input(1, 2 * i, i);
        }
        b.refuses("the 61st of the other", IllegalStateException.class, () -> b.x.input(1, 500, 60));
        b.x.begin();
        b.x.run(500);
        b.is("sixty of each", b.x.about(4), 120);
        b.is("the last one", b.x.wordAt(0, 0), 59);
    }

    // Promise 8: "All partitions begin COLD, in order."
    private static void beginsCold(Bench b) {
        b.fresh();
        b.load(Bench.times(16, "partition a# { memory 256; " + P + "} ") + "frame { a0 1; }");
        for (int i = 0; i < 16; i++) {
            b.x.image(i, 252, 100 + i);
        }
        b.x.begin();
        for (int i = 0; i < 16; i++) {
            b.is("once", b.x.partition(i, 8), 1);
            b.is("by begin()", b.x.partition(i, 11), 0);
            b.is("NORMAL", b.x.partition(i, 0), 0);
            b.is("READY", b.x.state(i, 0, 0), 1);
            b.is("the image", b.x.peek(i, 252), 100 + i);
        }
        b.is("time", b.x.about(0), 0);
    }

    // Promise 8: "IllegalStateException: it has begun, or there is no configuration."
    private static void beginsOnce(Bench b) {
        b.fresh();
        b.refuses("no configuration", IllegalStateException.class, () -> b.x.begin());
        b.load(TWO);
        b.x.begin();
        b.refuses("it has begun", IllegalStateException.class, () -> b.x.begin());
        b.is("once", b.x.partition(0, 8), 1);
        b.load(TWO);
        b.x.begin();
        b.is("anew", b.x.partition(0, 8), 1);
    }

    // Promise 9: "n ticks: how many instructions were done (also such as went wrong)."
    private static void howManyTicks(Bench b) {
        b.fresh();
        b.load("partition a { memory 256; " + P + "} partition b { memory 256; } frame { a 1; b 2; }");
        b.x.image(0, 0, Bench.STAY);
        b.x.begin();
        b.is("none", b.x.run(0), 0);
        b.is("time stays", b.x.about(0), 0);
        b.is("one", b.x.run(1), 1);
        b.is("nobody's", b.x.run(2), 0);
        b.is("time", b.x.about(0), 3);
        b.is("500", b.x.run(500), 167);
        b.is("time", b.x.about(0), 503);
    }

    // Promise 9: "IllegalArgumentException: n is not 0 .. 500."
    private static void notSoManyTicks(Bench b) {
        b.fresh();
        b.load(TWO);
        b.x.begin();
        int[] wrong = {-1, 501, 1000, Integer.MIN_VALUE, Integer.MAX_VALUE};
        for (int n : wrong) {
            b.refuses("run(" + n + ")", IllegalArgumentException.class, () -> b.x.run(n));
        }
        b.is("time stays", b.x.about(0), 0);
        b.x.run(500);
        b.is("the most", b.x.about(0), 500);
    }

    // Promise 9: "IllegalStateException: it has not begun."
    private static void runsOutOfTime(Bench b) {
        b.fresh();
        int[] any = {0, 1, 500, -1, 501};
        for (int n : any) {
            b.refuses("no configuration", IllegalStateException.class, () -> b.x.run(n));
        }
        b.load(TWO);
        for (int n : any) {
            b.refuses("not begun", IllegalStateException.class, () -> b.x.run(n));
        }
        b.is("time stays", b.x.about(0), 0);
    }

    // Promise 9: "how many instructions were done (also such as went wrong)."
    private static void wrongOnesAreCounted(Bench b) {
        b.fresh();
        b.load(ONE);
        b.x.begin();
        b.is("64 illegal ones, then outside the memory", b.x.run(100), 100);
        b.is("all went wrong", b.x.about(1), 100);
        b.is("in all", b.x.about(2), 100);
    }
}
