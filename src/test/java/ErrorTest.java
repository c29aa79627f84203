/** Promise 21: error; the actions, late ones, the handler and the calls 20, 24, 25. */
public final class ErrorTest {
    private static final String P = "process p { entry 0; priority 5; } ";
    private static final String Q = "process q { entry 256; priority 3; } ";
    private static final String H = "process h { entry 768; priority 0; handler; } ";

    public static void main(String[] args) {
        Bench b = new Bench();
        none(b);
        kinds(b);
        theLatestAreKept(b);
        actions(b);
        raised(b);
        late(b);
        lateActions(b);
        lateEndsTheTick(b);
        handles(b);
        tellsWhich(b);
        decides(b);
        decidesLate(b);
        handlerEnds(b);
        handlerFails(b);
        handlerIsBusy(b);
        notTheHandler(b);
        b.finish();
    }

    private static void none(Bench b) {
        for (int what = -1; what < 7; what++) {
            b.is("error without " + what, b.x.error(0, what), -1);
        }
        b.alone(P);
        b.x.begin();
        b.x.run(1);
        b.is("one", b.x.about(1), 1);
        b.isError("it", 0, 0, 0, 0, 0, 0, 0);
        b.is("no what", b.x.error(0, 6), -1);
        b.is("no what", b.x.error(0, -1), -1);
        b.is("none", b.x.error(1, 0), -1);
        b.is("none", b.x.error(-1, 0), -1);
        b.is("none", b.x.error(Integer.MAX_VALUE, 0), -1);
    }

    private static void kinds(Bench b) {
        b.fresh();
        b.load("partition z { memory 256; } partition a { memory 256; process y { entry 0; priority 0; stopped; }"
                + " process p { entry 0; priority 5; deadline 6; } } frame { z 5; a 30; }");
        b.program(1, 0, Bench.code(-1, Bench.fetch(2, 5, 0, 256), Bench.fetch(2, 5, 0, 3), Bench.set(10, -77),
                Bench.set(17, 20), Bench.CALL, Bench.set(17, 37), Bench.CALL, Bench.set(17, -1), Bench.CALL, Bench.STAY));
        b.x.begin();
        b.x.run(20);
        b.isError("illegal", 6, 5, 1, 1, 0, 0, -1);
        b.isError("memory", 5, 6, 1, 1, 1, 0, 256);
        b.isError("late", 4, 7, 1, 1, 2, 0, 6);
        b.isError("align", 3, 7, 1, 1, 4, 0, 3);
        b.isError("raised", 2, 10, 1, 1, 3, 0, -77);
        b.isError("a call 37", 1, 12, 1, 1, 0, 0, 115);
        b.isError("a call -1", 0, 14, 1, 1, 0, 0, 115);
        b.is("seven", b.x.about(1), 7);
        b.is("those that went wrong are counted, late ones are not", b.x.state(1, 1, 5), 15);
        b.is("PC behind them", b.x.state(1, 1, 1), 40);
        b.is("x10 stays", b.x.register(1, 1, 10), -77);
    }

    private static void theLatestAreKept(Bench b) {
        b.alone(P);
        b.x.begin();
        b.x.run(100);
        b.is("in all", b.x.about(1), 100);
        for (int k = 0; k < 64; k++) {
            b.is("time of " + k, b.x.error(k, 0), 99 - k);
        }
        b.is("no more", b.x.error(64, 0), -1);
    }

    private static void actions(Bench b) {
        String[] names = {"skip", "stop", "again", "warm", "cold", "idle"};
        int[] states = {1, 0, 1, 1, 1, 0};
        int[] places = {12, 8, 0, 0, 0, 8};
        for (int action = 0; action < 6; action++) {
            b.alone("process p { entry 0; priority 5; deadline 60; } errors { memory : " + names[action] + "; }");
            b.program(0, 0, Bench.set(5, 9), Bench.store(2, 5, 0, 512), Bench.store(2, 5, 0, -4), Bench.STAY);
            b.x.begin();
            b.x.run(3);
            String what = names[action];
            b.isError(what, 0, 2, 0, 0, 1, action, -4);
            b.is(what + " state", b.x.state(0, 0, 0), states[action]);
            b.is(what + " pc", b.x.state(0, 0, 1), places[action]);
            b.is(what + " due", b.x.state(0, 0, 3), states[action] == 0 ? -1 : action >= 2 ? 62 : 60);
            b.is(what + " release", b.x.state(0, 0, 6), action >= 2 && action <= 4 ? 2 : 0);
            b.isRegister(what, 0, 5, action >= 2 && action <= 4 ? 0 : 9);
            b.is(what + " memory", b.x.peek(0, 512), action == 4 ? 0 : 9);
            b.is(what + " how often", b.x.partition(0, 8), action == 3 || action == 4 ? 2 : 1);
            b.is(what + " how", b.x.partition(0, 11), action == 3 || action == 4 ? 3 : 0);
            b.is(what + " mode", b.x.partition(0, 0), action == 5 ? 1 : 0);
        }
        // another kind is not in the table: skip
        b.alone(P + "errors { memory : stop; align : stop; raised : stop; late : stop; }");
        b.x.begin();
        b.x.run(1);
        b.isError("illegal", 0, 0, 0, 0, 0, 0, 0);
        // who begins again stands behind all others, and keeps what it locked
        b.alone("process p { entry 0; priority 3; } process q { entry 256; priority 3; } errors { illegal : again; }");
        b.program(0, 0, Bench.code(Bench.set(5, 1), 0));
        b.program(0, 256, Bench.STAY);
        b.x.begin();
        b.x.run(2);
        b.is("the other one", b.x.partition(0, 10), 1);
    }

    private static void raised(Bench b) {
        b.alone(P + "errors { raised : stop; }");
        b.program(0, 0, Bench.ask(20, 42));
        b.x.begin();
        b.x.run(5);
        b.isError("raised", 0, 4, 0, 0, 3, 1, 42);
        b.isState("stopped at the call", 0, 0, 0, 16, 5);
        b.alone(P + "errors { raised : skip; }");
        b.program(0, 0, Bench.code(Bench.ask(20, 42), Bench.STAY));
        b.x.begin();
        b.x.run(5);
        b.isState("skipped", 0, 0, 1, 20, 5);
        b.isRegister("no answer", 0, 10, 42);
    }

    private static void late(Bench b) {
        b.alone("process p { entry 0; priority 5; deadline 10; } process q { entry 0; priority 1; deadline 12; }");
        b.program(0, 0, Bench.STAY);
        b.x.begin();
        b.x.run(11);
        b.is("not yet", b.x.about(1), 0);
        b.x.run(1);
        b.isError("DUE is below now", 0, 11, 0, 0, 2, 0, 10);
        b.isState("it goes on, without DUE", 0, 0, 1, 0, 5, -1);
        b.x.run(2);
        b.isError("the other, too, which never ran", 0, 13, 0, 1, 2, 0, 12);
        b.x.run(100);
        b.is("once", b.x.about(1), 2);
        // who waits may be late, and still waits; it is so just in its own window
        b.fresh();
        b.load("partition a { memory 256; process p { entry 0; priority 5; deadline 10; } semaphore s 0 : 1; }"
                + " partition b { memory 256; } frame { a 8; b 20; }");
        b.program(0, 0, Bench.code(Bench.ask(8, 0, -1)));
        b.x.begin();
        b.x.run(28);
        b.is("not in its window", b.x.about(1), 0);
        b.x.run(1);
        b.isError("in its window", 0, 28, 0, 0, 2, 0, 10);
        b.is("waits", b.x.state(0, 0, 0), 2);
    }

    private static void lateActions(Bench b) {
        String[] names = {"skip", "stop", "again"};
        for (int action = 0; action < 3; action++) {
            b.alone("process p { entry 0; priority 5; deadline 10; } semaphore s 0 : 1; errors { late : " + names[action] + "; }");
            b.program(0, 0, Bench.code(Bench.ask(8, 0, 50)));
            b.x.begin();
            b.x.run(12);
            b.isError(names[action], 0, 11, 0, 0, 2, action, 10);
            b.is(names[action] + " waits", b.x.waiting(0, 0, 0), action == 0 ? 1 : 0);
            b.is(names[action] + " state", b.x.state(0, 0, 0), 2 - action == 2 ? 2 : action - 1);
            b.is(names[action] + " until", b.x.state(0, 0, 4), action == 0 ? 54 : -1);
            b.is(names[action] + " due", b.x.state(0, 0, 3), action == 2 ? 21 : -1);
            b.is(names[action] + " done", b.x.state(0, 0, 5), action == 2 ? 6 : 5);
        }
    }

    private static void lateEndsTheTick(Bench b) {
        String[] names = {"warm", "cold", "idle"};
        for (int i = 0; i < 3; i++) {
            b.alone("process p { entry 0; priority 5; deadline 10; } process q { entry 0; priority 1; deadline 10; }"
                    + " errors { late : " + names[i] + "; }");
            b.program(0, 0, Bench.STAY);
            b.x.begin();
            b.x.run(11);
            b.is("nothing is done", b.x.run(1), 0);
            b.is("just the first of them", b.x.about(1), 1);
            b.isError(names[i], 0, 11, 0, 0, 2, 3 + i, 10);
            b.is("due", b.x.state(0, 1, 3), i == 2 ? -1 : 21);
            b.is("then", b.x.run(1), i == 2 ? 0 : 1);
        }
    }

    /** p fails at 4, the handler asks 24 and keeps x10 .. x13 in x20 .. x23, then does what is told. */
    private static void handled(Bench b, String things, int[] more) {
        b.alone(P + Q + H + things + " errors { memory : handle; late : handle; illegal : stop; }");
        b.program(0, 0, Bench.code(Bench.set(5, 9), Bench.fetch(2, 5, 0, -4), Bench.set(6, 1), Bench.STAY));
        b.program(0, 256, Bench.STAY);
        b.program(0, 768, Bench.code(Bench.ask(24), Bench.copy(20, 10), Bench.copy(21, 11), Bench.copy(22, 12),
                Bench.copy(23, 13), more));
        b.x.begin();
    }

    private static void handles(Bench b) {
        handled(b, "", Bench.ask(0));
        b.x.run(2);
        b.isError("handle", 0, 1, 0, 0, 1, 6, -4);
        b.isState("FAULTED", 0, 0, 3, 4, 5, -1, -1, 2, 0, 0, 0);
        b.isState("the handler begins", 0, 2, 1, 768, 0, -1, -1, 0, 1, 1, 0);
        b.is("it is ahead of all", b.x.partition(0, 10), 2);
        b.x.run(9);
        b.isRegister("KIND", 2, 20, 1);
        b.isRegister("process", 2, 21, 0);
        b.isRegister("PC", 2, 22, 4);
        b.isRegister("CODE", 2, 23, -4);
    }

    private static void tellsWhich(Bench b) {
        b.alone(Q + H + "process p { entry 0; priority 5; } errors { raised : handle; }");
        b.program(0, 0, Bench.code(Bench.ask(20, -9), Bench.STAY));
        b.program(0, 768, Bench.code(Bench.ask(24), Bench.STAY));
        b.x.begin();
        b.x.run(10);
        b.isRegister("KIND", 1, 10, 3);
        b.isRegister("process", 1, 11, 2);
        b.isRegister("PC", 1, 12, 16);
        b.isRegister("CODE", 1, 13, -9);
    }

    private static void decides(Bench b) {
        for (int a = 0; a < 3; a++) {
            handled(b, "", Bench.code(Bench.ask(25, 3), Bench.copy(24, 10), Bench.ask(25, a), Bench.copy(25, 10),
                    Bench.ask(25, 7), Bench.copy(26, 10), Bench.ask(24), Bench.copy(27, 10), Bench.STAY));
            b.x.run(2 + 9 + 6);
            b.isRegister("no such", 2, 24, 1);
            b.is("still FAULTED", b.x.state(0, 0, 0), 3);
            b.x.run(5);
            b.is("decided", b.x.state(0, 0, 0), a == 1 ? 0 : 1);
            b.is("PC", b.x.state(0, 0, 1), a == 0 ? 8 : a == 1 ? 4 : 0);
            b.isRegister("registers", 0, 5, a == 2 ? 0 : 9);
            b.is("release", b.x.state(0, 0, 6), a == 2 ? 21 : 0);
            b.x.run(1 + 6 + 6);
            b.isRegister("the answer", 2, 25, 0);
            b.isRegister("nothing is FAULTED, ahead of no such", 2, 26, 2);
            b.isRegister("24, too", 2, 27, 2);
        }
    }

    private static void decidesLate(Bench b) {
        b.alone("process p { entry 0; priority 5; deadline 9; } " + H + "semaphore s 0 : 1; errors { late : handle; }");
        b.program(0, 0, Bench.code(Bench.ask(8, 0, 50), Bench.STAY));
        b.program(0, 768, Bench.code(Bench.ask(24), Bench.copy(20, 10), Bench.copy(23, 13), Bench.ask(25, 0), Bench.ask(0)));
        b.x.begin();
        b.x.run(11);
        b.isError("late", 0, 10, 0, 0, 2, 6, 9);
        b.isState("FAULTED", 0, 0, 3, 20, 5, -1, -1);
        b.is("what it waits for is forgotten", b.x.waiting(0, 0, 0), 0);
        b.is("the handler runs in that tick", b.x.state(0, 1, 5), 1);
        b.x.run(11);
        b.isRegister("KIND", 1, 20, 2);
        b.isRegister("CODE", 1, 23, 9);
        b.isState("READY, PC stays", 0, 0, 1, 20, 5, -1, -1);
    }

    private static void handlerEnds(Bench b) {
        handled(b, "", Bench.ask(0));
        b.x.run(2 + 9 + 4);
        b.is("still FAULTED", b.x.state(0, 0, 0), 3);
        b.x.run(1);
        b.isState("the handler", 0, 2, 0, 824, 0, -1, -1);
        b.isState("who was FAULTED", 0, 0, 0, 4, 5, -1, -1);
        b.is("the others go on", b.x.partition(0, 10), 1);
        // decided ahead of that, it stays as it is
        handled(b, "", Bench.code(Bench.ask(25, 0), Bench.ask(0)));
        b.x.run(2 + 9 + 10);
        b.is("the handler", b.x.state(0, 2, 0), 0);
        b.is("who was FAULTED", b.x.state(0, 0, 0), 1);
        // stopped by the handler's 4; begun by its 3 it can't be while it is FAULTED
        handled(b, "", Bench.code(Bench.ask(3, 0), Bench.copy(24, 10), Bench.ask(27, 0), Bench.copy(25, 10), Bench.ask(4, 0),
                Bench.copy(26, 10), Bench.ask(25, 0), Bench.copy(27, 10), Bench.ask(3, 0), Bench.ask(0)));
        b.x.run(2 + 9 + 34);
        b.isRegister("3", 2, 24, 2);
        b.isRegister("27", 2, 25, 2);
        b.isRegister("4", 2, 26, 0);
        b.isRegister("25", 2, 27, 2);
        b.is("it stays READY", b.x.state(0, 0, 0), 1);
    }

    private static void handlerFails(Bench b) {
        handled(b, "semaphore s 0 : 1;", new int[] {0});
        b.x.run(2 + 9);
        b.is("one", b.x.about(1), 1);
        b.x.run(1);
        b.isError("always 3", 0, 11, 0, 2, 0, 3, 0);
        b.is("how", b.x.partition(0, 11), 3);
        b.is("how often", b.x.partition(0, 8), 2);
        b.isState("the handler", 0, 2, 0, 804, 0, -1, -1);
        b.isState("who was FAULTED", 0, 0, 1, 0, 5, -1, -1, 2, 11);
        // late, too
        b.alone(P + "process h { entry 768; priority 0; deadline 3; handler; } errors { illegal : handle; late : idle; }");
        b.program(0, 768, Bench.STAY);
        b.x.begin();
        b.x.run(1);
        b.is("due", b.x.state(0, 1, 3), 3);
        b.x.run(4);
        b.isError("late", 0, 4, 0, 1, 2, 3, 3);
    }

    private static void handlerIsBusy(Bench b) {
        b.alone("process p { entry 0; priority 5; } process d { entry 0; priority 1; deadline 6; } " + H
                + "errors { illegal : handle; late : handle; }");
        b.program(0, 0, Bench.code(0, Bench.STAY));
        b.program(0, 768, Bench.STAY);
        b.x.begin();
        b.x.run(8);
        b.isError("as skip", 0, 7, 0, 1, 2, 0, 6);
        b.isState("it goes on", 0, 1, 1, 0, 1, -1);
        b.is("the first one is FAULTED", b.x.state(0, 0, 0), 3);
        // who is FAULTED keeps its DUE, and may be late
        b.alone("process p { entry 0; priority 5; deadline 6; } " + H + "errors { illegal : handle; late : stop; }");
        b.program(0, 768, Bench.code(Bench.ask(2, 1), Bench.ask(24), Bench.STAY));
        b.x.begin();
        b.x.run(7);
        b.is("due", b.x.state(0, 0, 3), 6);
        b.x.run(1);
        b.isError("late", 0, 7, 0, 0, 2, 1, 6);
        b.is("DORMANT", b.x.state(0, 0, 0), 0);
        b.x.run(4);
        b.isRegister("nothing is FAULTED", 1, 10, 2);
    }

    private static void notTheHandler(Bench b) {
        b.alone(P);
        b.answers("24", 3, 24, 0, 0, 0);
        b.alone(P);
        b.answers("25", 3, 25, 9, 0, 0);
        b.alone(P + H);
        b.answers("25", 3, 25, 0, 0, 0);
    }
}
