/** Promise 12: state; processes, who runs, waits for a time, and the calls 0 to 7, 26 to 31, 34. */
public final class ProcessTest {
    private static final String P = "process p { entry 0; priority 5; } ";
    private static final String Q = "process q { entry 256; priority 3; } ";
    private static final String Q_STOPPED = "process q { entry 256; priority 3; deadline 50; stopped; } ";
    private static final String R = "process r { entry 512; priority 3; } ";
    private static final String H = "process h { entry 768; priority 0; handler; } ";

    public static void main(String[] args) {
        Bench b = new Bench();
        none(b);
        whoRuns(b);
        ends(b);
        periods(b);
        sleeps(b);
        wakesInOrder(b);
        begins(b);
        beginsLater(b);
        stops(b);
        priorities(b);
        standsBehind(b);
        letsGoOn(b);
        holds(b);
        dueTimes(b);
        tells(b);
        b.finish();
    }

    private static void ask(Bench b, String things, String what, int want, int number, int a, int c) {
        b.alone(things);
        b.answers(what, want, number, a, c, 0);
    }

    private static void none(Bench b) {
        b.is("without a configuration", b.x.state(0, 0, 0), -1);
        b.alone(P);
        b.is("no process", b.x.state(0, 1, 0), -1);
        b.is("no process", b.x.state(0, -1, 0), -1);
        b.is("no partition", b.x.state(1, 0, 0), -1);
        b.is("no partition", b.x.state(-1, 0, 0), -1);
        b.is("no what", b.x.state(0, 0, 9), -1);
        b.is("no what", b.x.state(0, 0, -1), -1);
        b.isState("ahead of begin()", 0, 0, 0, 0, 5, -1, -1, 0, 0, 0, 0);
    }

    private static void whoRuns(Bench b) {
        b.alone(Q + P + R);
        b.program(0, 0, Bench.code(Bench.set(5, 1), Bench.ask(2, 4), Bench.STAY));
        b.program(0, 256, Bench.STAY);
        b.program(0, 512, Bench.STAY);
        b.x.begin();
        b.is("the greatest priority", b.x.partition(0, 10), 1);
        b.x.run(6);
        b.is("it waits: the first of the others", b.x.partition(0, 10), 0);
        b.isState("waits", 0, 1, 2, 24, 5, -1, 9);
        b.x.run(3);
        b.isState("did three", 0, 0, 1, 256, 3, -1, -1, 3);
        b.is("still waits", b.x.state(0, 1, 0), 2);
        b.is("nobody of what is READY now but q", b.x.partition(0, 10), 0);
        b.x.run(1);
        b.isState("runs at once when its time is there", 0, 1, 1, 24, 5, -1, -1, 7);
        b.is("r never ran", b.x.state(0, 2, 5), 0);
    }

    private static void ends(Bench b) {
        b.alone("process p { entry 0; priority 5; deadline 40; } " + Q);
        b.program(0, 0, Bench.code(Bench.set(5, 7), Bench.ask(0, 9)));
        b.program(0, 256, Bench.STAY);
        b.x.begin();
        b.is("due", b.x.state(0, 0, 3), 40);
        b.x.run(6);
        b.isState("DORMANT", 0, 0, 0, 24, 5, -1, -1, 6, 0, 0, 0);
        b.isRegister("no answer", 0, 10, 9);
        b.isRegister("registers stay", 0, 5, 7);
        b.is("the other one", b.x.partition(0, 10), 1);
        b.x.run(50);
        b.is("never late", b.x.about(1), 0);
    }

    private static void periods(Bench b) {
        b.alone("process p { entry 0; priority 5; period 20; deadline 9; } ");
        b.program(0, 0, Bench.code(Bench.withNumber(0, 5, 5, 1), Bench.ask(1, 8), Bench.jump(0, -24)));
        b.x.begin();
        b.isState("released", 0, 0, 1, 0, 5, 9, -1, 0, 0);
        b.x.run(6);
        b.isState("waits for its period", 0, 0, 2, 24, 5, 29, 20, 6, 20);
        b.isRegister("answer at once", 0, 10, 0);
        b.is("nothing done", b.x.run(14), 0);
        b.is("then it goes on", b.x.run(7), 7);
        b.isState("the next one", 0, 0, 2, 24, 5, 49, 40, 13, 40);
        b.x.run(30);
        b.is("in time", b.x.about(1), 0);
        b.isRegister("three rounds", 0, 5, 3);

        // far behind its periods it still waits, for a time that is over already
        b.alone("process p { entry 0; priority 5; period 2; } ");
        b.program(0, 0, Bench.code(Bench.ask(1), Bench.ask(1), Bench.STAY));
        b.x.begin();
        b.x.run(5);
        b.isState("until a time that is over", 0, 0, 2, 20, 5, -1, 2, 5, 2);
        b.x.run(5);
        b.isState("no tick is lost", 0, 0, 2, 40, 5, -1, 4, 10, 4);

        ask(b, P, "without a period", 3, 1, 0, 0);
        b.isState("goes on", 0, 0, 1, 20, 5, -1, -1, 5, 0);
    }

    private static void sleeps(Bench b) {
        ask(b, P, "none", 1, 2, 0, 0);
        ask(b, P, "below", 1, 2, -1, 0);
        ask(b, P, "one", 0, 2, 1, 0);
        b.isState("waits", 0, 0, 2, 20, 5, -1, 5);
        b.x.run(1);
        b.isState("no tick is lost", 0, 0, 1, 20, 5, -1, -1, 6);
        for (int n = 99999; n < 100002; n++) {
            b.alone(P);
            b.program(0, 0, Bench.code(Bench.setLong(10, n), Bench.set(17, 2), Bench.CALL, Bench.STAY));
            b.x.begin();
            b.x.run(4);
            b.isRegister("sleep " + n, 0, 10, n <= 100000 ? 0 : 1);
            b.is("until", b.x.state(0, 0, 4), n <= 100000 ? 3 + n : -1);
        }
        b.alone(P + "semaphore s 1 : 1;");
        b.program(0, 0, Bench.code(Bench.ask(21), Bench.ask(2, 3), Bench.STAY));
        b.x.begin();
        b.x.run(10);
        b.isRegister("not in a LOCKED partition", 0, 10, 3);
        b.is("READY", b.x.state(0, 0, 0), 1);
    }

    private static void wakesInOrder(Bench b) {
        // all wake in one tick: the earlier time first, then by their numbers
        b.fresh();
        b.load("partition a { memory 1024; process k { entry 0; priority 5; } process l { entry 256; priority 4; }"
                + " process m { entry 512; priority 3; } process n { entry 768; priority 2; } }"
                + " partition b { memory 256; } frame { a 20; b 100; }");
        int[] until = {30, 17, 12, 10};
        for (int i = 0; i < 4; i++) {
            b.program(0, 256 * i, Bench.code(Bench.ask(2, until[i]), Bench.ask(5, 31, 0),
                    Bench.set(5, 1), Bench.STAY));
        }
        b.x.begin();
        b.x.run(20);
        // k until 4 + 30 = 34, l until 9 + 17 = 26, m until 14 + 12 = 26, n until 19 + 10 = 29
        b.is("k", b.x.state(0, 0, 4), 34);
        b.is("l", b.x.state(0, 1, 4), 26);
        b.is("m", b.x.state(0, 2, 4), 26);
        b.is("n", b.x.state(0, 3, 4), 29);
        b.is("none in the other's window", b.x.run(99), 0);
        b.is("still waits", b.x.state(0, 1, 0), 2);
        b.x.run(1);
        b.x.run(1);
        for (int i = 0; i < 4; i++) {
            b.is("READY " + i, b.x.state(0, i, 0), 1);
        }

        b.fresh();
        b.load("partition a { memory 1024; process k { entry 0; priority 5; } process l { entry 256; priority 5; }"
                + " process m { entry 512; priority 5; } process n { entry 768; priority 5; } }"
                + " partition b { memory 256; } frame { a 20; b 100; }");
        for (int i = 0; i < 4; i++) {
            b.program(0, 256 * i, Bench.code(Bench.ask(2, until[i]), Bench.set(5, 1), Bench.ask(0)));
        }
        b.x.begin();
        b.x.run(120);
        b.is("the first is l", b.x.run(1), 1);
        b.is("l", b.x.state(0, 1, 5), 6);
        b.is("then m", b.x.partition(0, 10), 1);
        b.x.run(6);
        b.is("m", b.x.state(0, 2, 5), 6);
        b.x.run(6);
        b.is("n", b.x.state(0, 3, 5), 6);
        b.x.run(6);
        b.is("k", b.x.state(0, 0, 5), 6);
    }

    private static void begins(Bench b) {
        ask(b, P, "no such", 1, 3, 1, 0);
        ask(b, P, "no such", 1, 3, -1, 0);
        ask(b, P, "itself", 2, 3, 0, 0);
        ask(b, P + Q, "READY", 2, 3, 1, 0);
        ask(b, P + H, "a handler that is DORMANT", 1, 3, 1, 0);
        ask(b, P + Q_STOPPED, "DORMANT", 0, 3, 1, 0);
        b.isState("begins now", 0, 1, 1, 256, 3, 54, -1, 0, 4, 0, 0);
        b.isRegister("registers", 1, 5, 0);
    }

    private static void beginsLater(Bench b) {
        ask(b, P, "no such", 1, 34, 1, 5);
        ask(b, P + Q_STOPPED, "0 ticks", 1, 34, 1, 0);
        ask(b, P + Q_STOPPED, "-1 ticks", 1, 34, 1, -1);
        ask(b, P + Q, "0 ticks, READY", 1, 34, 1, 0);
        ask(b, P + Q, "READY", 2, 34, 1, 1);
        ask(b, P + H, "a handler", 1, 34, 1, 1);
        ask(b, P + Q_STOPPED, "fine", 0, 34, 1, 6);
        b.isState("begins later", 0, 1, 2, 256, 3, 60, 10, 0, 10, 0, 0);
        b.is("counted by no thing", b.x.waiting(0, 0, 0), -1);
        b.x.run(5);
        b.is("waits", b.x.state(0, 1, 0), 2);
        b.x.run(1);
        b.is("READY", b.x.state(0, 1, 0), 1);
        b.isRegister("no answer", 1, 10, 0);
    }

    private static void stops(Bench b) {
        ask(b, P, "no such", 1, 4, 1, 0);
        ask(b, P + H, "a handler", 1, 4, 1, 0);
        ask(b, P + Q_STOPPED, "DORMANT already", 2, 4, 1, 0);
        ask(b, P + Q, "READY", 0, 4, 1, 0);
        b.is("DORMANT", b.x.state(0, 1, 0), 0);
        ask(b, P, "itself: no answer", 0, 4, 0, 0);
        b.isState("DORMANT", 0, 0, 0, 20, 5);
        // what it waits for is forgotten
        b.alone("process p { entry 0; priority 5; delay 10; } " + Q + "semaphore s 0 : 1;");
        b.program(0, 0, Bench.code(Bench.ask(4, 1), Bench.copy(20, 10), Bench.ask(9, 0), Bench.copy(21, 10),
                Bench.STAY));
        b.program(0, 256, Bench.code(Bench.ask(8, 0, 99)));
        b.x.begin();
        b.x.run(10);
        b.isState("waits", 0, 1, 2, 276, 3, -1, 103);
        b.is("counted", b.x.waiting(0, 0, 0), 1);
        b.x.run(12);
        b.isState("DORMANT", 0, 1, 0, 276, 3, -1, -1);
        b.is("counted no more", b.x.waiting(0, 0, 0), 0);
        b.isRegister("stopped", 0, 20, 0);
        b.isRegister("given", 0, 21, 0);
        b.is("kept", b.x.thing(0, 0, 0), 1);
    }

    private static void priorities(Bench b) {
        ask(b, P, "no such", 1, 5, 1, 3);
        ask(b, P, "16", 1, 5, 0, 16);
        ask(b, P, "-1", 1, 5, 0, -1);
        ask(b, P, "0", 0, 5, 0, 0);
        b.is("the lowest", b.x.state(0, 0, 2), 0);
        ask(b, P, "15", 0, 5, 0, 15);
        b.is("its own", b.x.state(0, 0, 2), 15);
        ask(b, P + H, "of the handler", 0, 5, 1, 7);
        b.is("changed", b.x.state(0, 1, 2), 7);
        ask(b, P + Q, "above its own", 0, 5, 1, 6);
        b.is("who is next", b.x.partition(0, 10), 1);
        ask(b, P + Q, "like its own", 0, 5, 1, 5);
        b.is("the first of both", b.x.partition(0, 10), 0);
    }

    private static void standsBehind(Bench b) {
        b.alone(Q + R + "process s { entry 256; priority 2; } ");
        b.program(0, 256, Bench.code(Bench.set(17, 7), Bench.CALL, Bench.jump(0, -8)));
        b.program(0, 512, Bench.code(Bench.set(17, 7), Bench.set(10, 9), Bench.CALL, Bench.STAY));
        b.x.begin();
        b.x.run(2);
        b.is("r", b.x.partition(0, 10), 1);
        b.x.run(3);
        b.isRegister("the answer", 1, 10, 0);
        b.is("q again", b.x.partition(0, 10), 0);
        b.x.run(3);
        b.is("r again", b.x.partition(0, 10), 1);
        b.alone(P);
        b.answers("alone", 0, 7, 9, 0, 0);
        b.is("goes on", b.x.partition(0, 10), 0);
        b.alone(P);
        b.program(0, 0, Bench.code(Bench.set(5, 0), Bench.set(5, 0), Bench.set(17, 6), Bench.CALL));
        b.x.begin();
        b.x.run(4);
        b.isRegister("the time", 0, 10, 3);
    }

    private static void letsGoOn(Bench b) {
        ask(b, P, "no time", 1, 26, -2, 0);
        ask(b, P, "not to wait", 2, 26, 0, 0);
        ask(b, "process p { entry 0; priority 5; period 9; } ", "with a period", 3, 26, 0, 0);
        ask(b, "process p { entry 0; priority 5; period 9; } ", "no time is ahead", 1, 26, -2, 0);
        ask(b, P, "nobody", 1, 28, 1, 0);
        ask(b, P, "itself", 2, 28, 0, 0);
        ask(b, P + Q, "neither", 2, 28, 1, 0);
        ask(b, P, "x10 stays", 4, 26, 4, 0);
        b.isState("waits", 0, 0, 2, 20, 5, -1, 8);
        b.x.run(3);
        b.is("waits", b.x.state(0, 0, 0), 2);
        b.x.run(1);
        b.isRegister("the time is over", 0, 10, 4);

        b.alone(P + Q);
        b.program(0, 0, Bench.code(Bench.ask(26, -1), Bench.copy(20, 10), Bench.STAY));
        b.program(0, 256, Bench.code(Bench.ask(28, 0), Bench.STAY));
        b.x.begin();
        b.x.run(9);
        b.isState("waits as long as it takes", 0, 0, 2, 20, 5, -1, -1);
        b.isRegister("x10 stays", 0, 10, -1);
        b.x.run(1);
        b.isState("goes on", 0, 0, 1, 20, 5, -1, -1);
        b.isRegister("it has what it waited for", 0, 10, 0);
        b.isRegister("the answer", 1, 10, 0);

        b.alone(P + "semaphore s 0 : 1;");
        b.program(0, 0, Bench.code(Bench.ask(21), Bench.ask(26, 3), Bench.STAY));
        b.x.begin();
        b.x.run(10);
        b.isRegister("LOCKED", 0, 10, 3);
    }

    private static void holds(Bench b) {
        ask(b, P, "no such", 1, 27, 1, 0);
        ask(b, P, "itself", 1, 27, 0, 0);
        ask(b, P + H, "the handler", 1, 27, 1, 0);
        ask(b, P + "process q { entry 256; priority 3; period 5; stopped; } ", "with a period", 3, 27, 1, 0);
        ask(b, P + Q_STOPPED, "DORMANT", 2, 27, 1, 0);
        ask(b, P + Q, "READY", 0, 27, 1, 0);
        b.is("HELD", b.x.state(0, 1, 8), 1);
        b.is("still READY", b.x.state(0, 1, 0), 1);

        b.alone(P + Q + R);
        b.program(0, 0, Bench.code(Bench.ask(27, 1), Bench.ask(27, 1), Bench.copy(20, 10), Bench.ask(2, 20),
                Bench.ask(28, 1), Bench.copy(21, 10), Bench.ask(2, 5), Bench.STAY));
        b.program(0, 256, Bench.STAY);
        b.program(0, 512, Bench.STAY);
        b.x.begin();
        b.x.run(17);
        b.isRegister("HELD already", 0, 20, 2);
        b.is("who is not HELD", b.x.partition(0, 10), 2);
        b.x.run(18);
        b.is("no instruction of it", b.x.state(0, 1, 5), 0);
        b.x.run(12);
        b.isRegister("may go on", 0, 21, 0);
        b.is("not HELD", b.x.state(0, 1, 8), 0);
        b.is("stands behind", b.x.partition(0, 10), 2);

        // who is HELD and waits has what it waits for, and is READY, but does nothing
        b.alone(P + Q + "semaphore s 0 : 1;");
        b.program(0, 0, Bench.code(Bench.ask(2, 9), Bench.ask(27, 1), Bench.copy(20, 10), Bench.ask(9, 0),
                Bench.ask(2, 9), Bench.ask(4, 1), Bench.ask(3, 1), Bench.STAY));
        b.program(0, 256, Bench.code(Bench.ask(8, 0, -1), Bench.STAY));
        b.x.begin();
        b.x.run(30);
        b.isRegister("held while it waits", 0, 20, 0);
        b.isState("READY and HELD", 0, 1, 1, 276, 3, -1, -1, 5, 0, 0, 1);
        b.isRegister("the answer", 1, 10, 0);
        b.x.run(12);
        b.isState("DORMANT is not HELD", 0, 1, 0, 276, 3, -1, -1, 5, 0, 0, 0);
        b.x.run(5);
        b.isState("begins anew", 0, 1, 1, 256, 3, -1, -1, 5, 46, 0, 0);

        // who begins again for being late is not HELD
        b.alone(P + "process q { entry 256; priority 3; deadline 9; } errors { late : again; }");
        b.program(0, 0, Bench.code(Bench.ask(27, 1), Bench.STAY));
        b.program(0, 256, Bench.STAY);
        b.x.begin();
        b.x.run(10);
        b.is("HELD", b.x.state(0, 1, 8), 1);
        b.x.run(1);
        b.isState("BEGINS", 0, 1, 1, 256, 3, 19, -1, 0, 10, 0, 0);

        // HELD while it waits to be let go on: one call does both
        b.alone(P + Q);
        b.program(0, 0, Bench.code(Bench.ask(2, 9), Bench.ask(27, 1), Bench.ask(28, 1), Bench.copy(20, 10), Bench.STAY));
        b.program(0, 256, Bench.code(Bench.ask(26, -1), Bench.STAY));
        b.x.begin();
        b.x.run(19);
        b.isState("waits and is HELD", 0, 1, 2, 276, 3, -1, -1, 5, 0, 0, 1);
        b.x.run(6);
        b.isState("neither", 0, 1, 1, 276, 3, -1, -1, 5, 0, 0, 0);
        b.isRegister("the answer", 1, 10, 0);
        b.isRegister("the answer", 0, 20, 0);
    }

    private static void dueTimes(Bench b) {
        String d = "process p { entry 0; priority 5; deadline 9; } ";
        String t = "process p { entry 0; priority 5; period 20; deadline 9; } ";
        ask(b, d, "0", 1, 29, 0, 0);
        ask(b, d, "-1", 1, 29, -1, 0);
        ask(b, P, "without a deadline", 3, 29, 1, 0);
        ask(b, P, "no number is ahead", 1, 29, 0, 0);
        ask(b, d, "fine", 0, 29, 30, 0);
        b.is("due", b.x.state(0, 0, 3), 34);
        ask(b, t, "just", 0, 29, 16, 0);
        b.is("due", b.x.state(0, 0, 3), 20);
        ask(b, t, "above", 3, 29, 17, 0);
        b.is("due stays", b.x.state(0, 0, 3), 9);
    }

    private static void tells(Bench b) {
        ask(b, P, "no such", 1, 30, 1, 0);
        ask(b, P + Q_STOPPED, "fine", 0, 30, 1, 0);
        b.isRegister("state", 0, 11, 0);
        b.isRegister("priority", 0, 12, 3);
        b.isRegister("due", 0, 13, -1);
        ask(b, "process p { entry 0; priority 5; deadline 9; } ", "itself", 0, 30, 0, 0);
        b.isRegister("state", 0, 11, 1);
        b.isRegister("priority", 0, 12, 5);
        b.isRegister("due", 0, 13, 9);
        ask(b, P, "its own number", 0, 31, 7, 0);
        b.alone(Q_STOPPED + P);
        b.program(0, 0, Bench.ask(31));
        b.x.begin();
        b.x.run(5);
        b.isRegister("its own number", 1, 10, 1);
    }
}
