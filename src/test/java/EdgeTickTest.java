/** Edges of the term A TICK: inputs, windows, waits that end, due times, who is next. Above each test stands its sentence. */
public final class EdgeTickTest {
    private static final String P = "process p { entry 0; priority 5; } ";
    private static final String H = "process h { entry 768; priority 0; handler; } ";
    private static final String INPUTS = "partition a { memory 1024; process p { entry 0; priority 5; } port i in queuing;"
            + " port j in sampling; } channel queuing 2 { input > a.i } channel sampling 9 { input > a.j } frame { a 10; }";

    public static void main(String[] args) {
        Bench b = new Bench();
        inputsWhoseTimeItIs(b);
        whoWaitsHasItAtOnce(b);
        inputAtTheEndOfAWait(b);
        noneWaitsToPut(b);
        windowsOfOneTick(b);
        theLongestFrame(b);
        notWhoseWindowItIs(b);
        waitsThatEnd(b);
        waitsThatEndInTheirWindow(b);
        theEarlierTimeFirst(b);
        theAnswerFour(b);
        dueBelowNow(b);
        dueIsNoneThen(b);
        lateInOrder(b);
        lateOnesThatBecameReady(b);
        theHandlerFirst(b);
        whoLockedIt(b);
        theGreatestPriority(b);
        theFirstOfThese(b);
        nobody(b);
        theTickIsOver(b);
        timeIsOneMore(b);
        b.finish();
    }

    // A TICK: "words of device inputs whose time it is come to their channels, as if they were written there"
    private static void inputsWhoseTimeItIs(Bench b) {
        for (int time = 7; time <= 9; time++) {
            b.fresh();
            b.load(INPUTS);
            b.x.input(0, time, 70);
            b.x.input(1, time, 80);
            b.is("queuing at 8, the word at " + time, b.called(19, 0, 0, 0), time <= 8 ? 0 : 2);
            b.isRegister("the word", 0, 11, time <= 8 ? 70 : 0);
            b.fresh();
            b.load(INPUTS);
            b.x.input(0, time, 70);
            b.x.input(1, time, 80);
            b.is("sampling at 8, the word at " + time, b.called(19, 1, 0, 0), time <= 8 ? 0 : 2);
            b.isRegister("the word", 0, 11, time <= 8 ? 80 : 0);
            b.is("it came", b.x.channel(1, 3), time <= 8 ? time : -1);
        }
    }

    // A TICK: "(who WAITS to take has one at once)"
    private static void whoWaitsHasItAtOnce(Bench b) {
        b.fresh();
        b.load(INPUTS);
        b.x.input(0, 12, 70);
        b.x.input(0, 13, 71);
        b.is("waits", b.called(19, 0, -1, 0), 0);
        b.is("WAITING", b.x.state(0, 0, 0), 2);
        b.is("nothing till then", b.x.run(3), 0);
        b.is("it goes on in that very tick", b.x.run(1), 1);
        b.isRegister("the word", 0, 11, 70);
        b.isRegister("the answer", 0, 10, 0);
        b.is("nothing is kept", b.x.channel(0, 1), 0);
        b.x.run(1);
        b.is("the next is kept, as none waits", b.x.wordAt(0, 0), 71);
    }

    // A TICK: "(who WAITS to take has one at once)" ahead of the waits that end in this tick
    private static void inputAtTheEndOfAWait(Bench b) {
        for (int time = 12; time <= 14; time++) {
            b.fresh();
            b.load(INPUTS);
            b.x.input(0, time, 70);
            b.called(19, 0, 5, 0);
            b.is("until", b.x.state(0, 0, 4), 13);
            b.x.run(6);
            b.isRegister("word at " + time, 0, 10, time <= 13 ? 0 : 4);
            b.isRegister("word at " + time, 0, 11, time <= 13 ? 70 : 5);
            b.is("kept", b.x.channel(0, 1), time <= 13 ? 0 : 1);
        }
    }

    // A TICK: "but that none waits to put."
    private static void noneWaitsToPut(Bench b) {
        b.fresh();
        b.load(INPUTS);
        for (int t = 0; t < 3; t++) {
            b.x.input(0, t, 70 + t);
            b.x.input(1, t, 80 + t);
        }
        b.program(0, 0, Bench.code(Bench.ask(19, 0, 0), Bench.STAY));
        b.x.begin();
        b.x.run(2);
        b.is("full", b.x.channel(0, 1), 2);
        b.is("none is lost", b.x.channel(0, 4), 0);
        b.x.run(1);
        b.is("full", b.x.channel(0, 1), 2);
        b.is("one is lost", b.x.channel(0, 4), 1);
        b.x.run(2);
        b.is("one is taken, none comes behind", b.x.channel(0, 1), 1);
        b.is("the second", b.x.wordAt(0, 0), 71);
        b.is("a sampled word loses none", b.x.channel(1, 4), 0);
        b.is("the latest", b.x.wordAt(1, 0), 82);
    }

    // A TICK: "Then the partition whose window it is (time modulo the FRAME's ticks)"
    private static void windowsOfOneTick(Bench b) {
        b.fresh();
        b.load("partition a { memory 256; " + P + "} partition b { memory 256; " + P + "} frame { b 1; a 1; }");
        b.x.image(0, 0, Bench.STAY);
        b.x.image(1, 0, Bench.STAY);
        b.x.begin();
        for (int t = 0; t < 9; t++) {
            b.is("window", b.x.about(3), 1 - t % 2);
            b.x.run(1);
            b.is("a did", b.x.partition(0, 13), (t + 1) / 2);
            b.is("b did", b.x.partition(1, 13), t / 2 + 1);
        }
    }

    // A TICK: "Then the partition whose window it is (time modulo the FRAME's ticks)"
    private static void theLongestFrame(Bench b) {
        b.fresh();
        b.load("partition a { memory 256; } partition b { memory 256; " + P + "} frame { " + Bench.times(23, "a 200; ")
                + "b 200; }");
        b.x.image(1, 0, Bench.STAY);
        b.x.begin();
        for (int n = 0; n < 9; n++) {
            b.is("nothing", b.x.run(500), 0);
        }
        b.is("till 4600", b.x.run(100), 0);
        b.is("b's window", b.x.about(3), 1);
        b.is("199 ticks", b.x.run(199), 199);
        b.is("b's last tick", b.x.about(3), 1);
        b.is("one", b.x.run(1), 1);
        b.is("4800: the first tick again", b.x.about(3), 0);
        b.is("nothing", b.x.run(1), 0);
    }

    // A TICK: "Then the partition whose window it is (time modulo the FRAME's ticks), if its MODE is NORMAL"
    private static void notWhoseWindowItIs(Bench b) {
        b.fresh();
        b.load("partition a { memory 256; process p { entry 0; priority 5; deadline 3; delay 2; } } partition b { memory 256; }"
                + " frame { b 10; a 1; }");
        b.x.begin();
        b.is("nothing", b.x.run(10), 0);
        b.isState("still waits, is not late", 0, 0, 2, 0, 5, 5, 2, 0, 2);
        b.is("no error", b.x.about(1), 0);
        b.is("its tick", b.x.run(1), 1);
        b.isError("it is late", 1, 10, 0, 0, 2, 0, 5);
        b.isError("and did the word 0", 0, 10, 0, 0, 0, 0, 0);
    }

    // A TICK: "those of its processes that WAIT until a time not above now become READY"
    private static void waitsThatEnd(Bench b) {
        int[] ticks = {1, 2, 10, 100000};
        for (int t : ticks) {
            b.is("sleeps", b.asked(P, 2, t, 0, 0), 0);
            b.is("until", b.x.state(0, 0, 4), 8 + t);
            for (int left = t - 1; left > 0; left -= Math.min(500, left)) {
                b.is("nothing", b.x.run(Math.min(500, left)), 0);
            }
            b.is("time", b.x.about(0), 8 + t);
            b.is("still waits", b.x.state(0, 0, 0), 2);
            b.is("not above now", b.x.run(1), 1);
            b.is("READY", b.x.state(0, 0, 0), 1);
            b.is("no time any more", b.x.state(0, 0, 4), -1);
        }
    }

    // A TICK: "those of its processes that WAIT until a time not above now become READY" Of its processes: of who has the
    // window.
    private static void waitsThatEndInTheirWindow(Bench b) {
        b.fresh();
        b.load("partition a { memory 1024; " + P + "} partition b { memory 256; } frame { a 9; b 50; }");
        b.called(2, 3, 0, 0);
        b.is("until", b.x.state(0, 0, 4), 11);
        b.x.run(50);
        b.is("time", b.x.about(0), 59);
        b.is("still waits", b.x.state(0, 0, 0), 2);
        b.is("READY and on", b.x.run(1), 1);
    }

    // A TICK: "(the earlier time first, then in order; who waited for a thing has the answer 4)."
    private static void theEarlierTimeFirst(Bench b) {
        int[][] orders = {{30, 20, 10}, {30, 25, 20}, {20, 30, 40}, {40, 35, 20}};
        int[][] wants = {{2, 1, 0}, {0, 1, 2}, {0, 1, 2}, {2, 0, 1}};
        for (int n = 0; n < orders.length; n++) {
            b.fresh();
            b.load("partition a { memory 1024; process k { entry 0; priority 5; } process l { entry 256; priority 5; }"
                    + " process m { entry 512; priority 5; } } partition b { memory 256; } frame { a 15; b 100; }");
            for (int i = 0; i < 3; i++) {
                b.program(0, 256 * i, Bench.code(Bench.ask(2, orders[n][i]), Bench.ask(0)));
            }
            b.x.begin();
            b.x.run(115);
            // they called at 4, 9 and 14
            for (int i = 0; i < 3; i++) {
                b.is("until", b.x.state(0, i, 4), 4 + 5 * i + orders[n][i]);
            }
            for (int i = 0; i < 3; i++) {
                b.x.run(1);
                b.is("in their turn " + n, b.x.partition(0, 10), wants[n][i]);
                b.x.run(4);
                b.is("it ended", b.x.state(0, wants[n][i], 0), 0);
            }
        }
    }

    // A TICK: "who waited for a thing has the answer 4)." Who waited for a time has none.
    private static void theAnswerFour(Bench b) {
        String things = P + "semaphore s 0 : 1; event e; buffer u 1; board o; ";
        int[][] asks = {{8, 0, 1, 0}, {12, 0, 1, 0}, {14, 0, 1, 0}, {17, 0, 1, 0}, {26, 1, 0, 0}};
        for (int[] ask : asks) {
            b.is("x10 stays", b.asked(things, ask[0], ask[1], ask[2], ask[3]), ask[1]);
            b.is("until", b.x.state(0, 0, 4), 9);
            b.is("goes on", b.x.run(1), 1);
            b.isRegister("the time is over for " + ask[0], 0, 10, 4);
            b.isRegister("no word for " + ask[0], 0, 11, ask[2]);
        }
        b.is("2", b.asked(P, 2, 1, 0, 0), 0);
        b.x.run(1);
        b.isRegister("stays 0", 0, 10, 0);
        b.alone("process p { entry 0; priority 5; delay 3; }");
        b.program(0, 0, Bench.STAY);
        b.x.begin();
        b.x.run(4);
        b.isRegister("who begins has none", 0, 10, 0);
    }

    // A TICK: "Then each process, in order, with a DUE below now: DUE is none, error late."
    private static void dueBelowNow(Bench b) {
        int[] deadlines = {1, 2, 10, 499};
        for (int d : deadlines) {
            b.alone("process p { entry 0; priority 5; deadline " + d + "; }");
            b.program(0, 0, Bench.STAY);
            b.x.begin();
            b.x.run(d + 1);
            b.is("time", b.x.about(0), d + 1);
            b.is("at DUE it is not late", b.x.about(1), 0);
            b.is("due", b.x.state(0, 0, 3), d);
            b.x.run(1);
            b.isError("one later it is", 0, d + 1, 0, 0, 2, 0, d);
        }
    }

    // A TICK: "DUE is none, error late."
    private static void dueIsNoneThen(Bench b) {
        b.alone("process p { entry 0; priority 5; deadline 1; }");
        b.program(0, 0, Bench.STAY);
        b.x.begin();
        b.x.run(3);
        b.is("none", b.x.state(0, 0, 3), -1);
        b.x.run(300);
        b.is("once", b.x.about(1), 1);
    }

    // A TICK: "Then each process, in order, with a DUE below now"
    private static void lateInOrder(Bench b) {
        b.alone("process p { entry 0; priority 1; deadline 4; } process q { entry 0; priority 9; deadline 3; }"
                + " process r { entry 0; priority 5; deadline 2; } process s { entry 0; priority 5; deadline 9; }");
        b.program(0, 0, Bench.STAY);
        b.x.begin();
        b.x.run(3);
        b.is("none yet", b.x.about(1), 0);
        b.x.run(1);
        b.isError("r", 0, 3, 0, 2, 2, 0, 2);
        b.fresh();
        b.load("partition a { memory 256; process p { entry 0; priority 1; deadline 4; } process q { entry 0; priority 9;"
                + " deadline 3; } process r { entry 0; priority 5; deadline 2; } process s { entry 0; priority 5; deadline 10; } }"
                + " partition b { memory 256; } frame { b 10; a 1; }");
        b.x.image(0, 0, Bench.STAY);
        b.x.begin();
        b.x.run(11);
        b.is("three in one tick", b.x.about(1), 3);
        b.isError("by their numbers", 2, 10, 0, 0, 2, 0, 4);
        b.isError("by their numbers", 1, 10, 0, 1, 2, 0, 3);
        b.isError("by their numbers", 0, 10, 0, 2, 2, 0, 2);
        b.is("10 is not below 10", b.x.state(0, 3, 3), 10);
    }

    // A TICK: "become READY" .. "Then each process, in order, with a DUE below now" The waits end ahead of that.
    private static void lateOnesThatBecameReady(Bench b) {
        b.alone("process p { entry 0; priority 5; deadline 10; } semaphore s 0 : 1; errors { late : skip; }");
        b.program(0, 0, Bench.code(Bench.ask(8, 0, 7), Bench.STAY));
        b.x.begin();
        b.x.run(11);
        b.isState("until 11, due 10", 0, 0, 2, 20, 5, 10, 11);
        b.is("it is READY, and runs", b.x.run(1), 1);
        b.isState("and late", 0, 0, 1, 20, 5, -1, -1, 6);
        b.isError("late", 0, 11, 0, 0, 2, 0, 10);
        b.isRegister("the answer", 0, 10, 4);
    }

    // A TICK: "Then one does the instruction at PC: the handler, if it is READY; else, if the partition is LOCKED, who locked
    // it, if READY" The handler, even where another has locked.
    private static void theHandlerFirst(Bench b) {
        b.alone("process p { entry 0; priority 15; } process d { entry 0; priority 1; deadline 9; } " + H
                + "errors { late : handle; }");
        b.program(0, 0, Bench.code(Bench.set(17, 21), Bench.CALL, Bench.STAY));
        b.program(0, 768, Bench.STAY);
        b.x.begin();
        b.x.run(10);
        b.is("LOCKED", b.x.partition(0, 9), 1);
        b.is("who locked it", b.x.partition(0, 10), 0);
        b.x.run(1);
        b.is("the handler", b.x.partition(0, 10), 2);
        b.is("it did one", b.x.state(0, 2, 5), 1);
        b.is("still LOCKED", b.x.partition(0, 9), 1);
        b.x.run(20);
        b.is("it alone goes on", b.x.state(0, 0, 5), 10);
    }

    // A TICK: "else, if the partition is LOCKED, who locked it, if READY; else of those READY and not HELD"
    private static void whoLockedIt(Bench b) {
        b.alone("process p { entry 0; priority 0; } process q { entry 256; priority 15; delay 3; } ");
        b.program(0, 0, Bench.code(Bench.set(17, 21), Bench.CALL, Bench.set(17, 7), Bench.CALL, Bench.set(17, 22), Bench.CALL,
                Bench.STAY));
        b.program(0, 256, Bench.STAY);
        b.x.begin();
        b.x.run(5);
        b.is("q is READY", b.x.state(0, 1, 0), 1);
        b.is("p has locked", b.x.partition(0, 10), 0);
        b.x.run(1);
        b.is("p has unlocked", b.x.partition(0, 10), 1);
        b.is("p did six", b.x.state(0, 0, 5), 6);
        b.x.run(1);
        b.is("q did one", b.x.state(0, 1, 5), 1);
    }

    // A TICK: "else of those READY and not HELD the one of the greatest priority"
    private static void theGreatestPriority(Bench b) {
        for (int greatest = 0; greatest < 16; greatest++) {
            StringBuilder things = new StringBuilder();
            for (int i = 0; i < 16; i++) {
                things.append("process p" + i + " { entry 0; priority " + (i == greatest ? 15 : i % 15) + "; } ");
            }
            b.alone(things.toString());
            b.program(0, 0, Bench.STAY);
            b.x.begin();
            b.is("who", b.x.partition(0, 10), greatest);
            b.x.run(3);
            b.is("it did three", b.x.state(0, greatest, 5), 3);
        }
        b.alone("process p { entry 0; priority 0; }");
        b.program(0, 0, Bench.STAY);
        b.x.begin();
        b.is("priority 0 runs, too", b.x.run(2), 2);
    }

    // A TICK: "the one of the greatest priority, the first one of these."
    private static void theFirstOfThese(Bench b) {
        b.alone(Bench.times(16, "process p# { entry 0; priority 7; } "));
        b.program(0, 0, Bench.set(17, 7), Bench.CALL, Bench.jump(0, -4));
        b.x.begin();
        for (int i = 0; i < 16; i++) {
            b.is("the first", b.x.partition(0, 10), i);
            b.x.run(1);
            b.is("it goes on", b.x.partition(0, 10), i);
            b.x.run(1);
        }
        b.is("and round", b.x.partition(0, 10), 0);
    }

    // A TICK: "Then one does the instruction at PC" if there is one
    private static void nobody(Bench b) {
        b.alone("process p { entry 0; priority 5; delay 100; } process q { entry 0; priority 5; stopped; } " + H);
        b.program(0, 0, Bench.STAY);
        b.x.begin();
        b.is("nobody", b.x.partition(0, 10), -1);
        b.is("nothing", b.x.run(100), 0);
        b.is("time goes on", b.x.about(0), 100);
        b.is("then one", b.x.run(1), 1);
    }

    // A TICK: "(With an error whose action is warm, cold or idle the tick is over.)"
    private static void theTickIsOver(Bench b) {
        String[] actions = {"skip", "stop", "again", "warm", "cold", "idle"};
        for (int action = 0; action < 6; action++) {
            b.fresh();
            b.load("partition a { memory 256; process p { entry 0; priority 1; deadline 4; } process q { entry 0; priority 2;"
                    + " deadline 3; } process r { entry 0; priority 0; } errors { late : " + actions[action]
                    + "; } } partition b { memory 256; } frame { b 10; a 1; }");
            b.x.image(0, 0, Bench.STAY);
            b.x.begin();
            b.x.run(10);
            b.is(actions[action] + ": instructions", b.x.run(1), action >= 3 ? 0 : 1);
            b.is(actions[action] + ": errors", b.x.about(1), action >= 3 ? 1 : 2);
            b.is(actions[action] + ": time", b.x.about(0), 11);
            b.is(actions[action] + ": due", b.x.state(0, 1, 3), action < 2 || action == 5 ? -1 : 13);
        }
    }

    // A TICK: "Time is one more."
    private static void timeIsOneMore(Bench b) {
        b.alone(P + "errors { illegal : idle; }");
        b.x.begin();
        for (int t = 0; t < 30; t++) {
            b.is("time", b.x.about(0), t);
            b.x.run(1);
        }
        b.x.run(0);
        b.is("time", b.x.about(0), 30);
    }
}
