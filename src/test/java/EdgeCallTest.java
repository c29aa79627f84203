/** Edges of the term CALLS: the calls 0 to 7 and 20 to 36. Above each test stands the sentence that it is of. */
public final class EdgeCallTest {
    private static final int LOWEST = Integer.MIN_VALUE;
    private static final int HIGHEST = Integer.MAX_VALUE;
    private static final String P = "process p { entry 0; priority 5; } ";
    private static final String Q = "process q { entry 512; priority 3; } ";
    private static final String Q_STOPPED = "process q { entry 512; priority 3; deadline 50; stopped; } ";
    private static final String H = "process h { entry 768; priority 0; handler; } ";

    public static void main(String[] args) {
        Bench b = new Bench();
        call0(b);
        call1(b);
        call1FarBehind(b);
        call2(b);
        call3(b);
        call4(b);
        call4Waiting(b);
        call5(b);
        call6(b);
        call7(b);
        call20(b);
        call21(b);
        call22(b);
        oneLockIsLeft(b);
        locksOfTheHandler(b);
        call23(b);
        call24(b);
        call25(b);
        call25ForLate(b);
        call26(b);
        call27(b);
        call28(b);
        call28KeepsTheTurn(b);
        call29(b);
        call29WithAPeriod(b);
        call30(b);
        call31(b);
        call32(b);
        call33(b);
        call33OfPorts(b);
        call34(b);
        call35(b);
        call36(b);
        call36AtTheEnds(b);
        b.finish();
    }

    // CALLS: "0 it is DORMANT (no answer)."
    private static void call0(Bench b) {
        b.is("no answer", b.asked(P, 0, -77, 1, 2), -77);
        b.isState("DORMANT", 0, 0, 0, 36, 5, -1, -1, 9);
        b.is("nobody", b.x.run(100), 0);
    }

    // CALLS: "1 with a period: RELEASE is that more, it WAITS until then, DUE is RELEASE + its deadline, if it has one; 0;
    // without 3."
    private static void call1(Bench b) {
        int[] periods = {9, 10, 100000};
        for (int period : periods) {
            b.is("with a deadline", b.asked("process p { entry 0; priority 5; period " + period + "; deadline 100000; }", 1, 7, 0, 0), 0);
            b.isState("period " + period, 0, 0, 2, 36, 5, period + 100000, period, 9, period);
            b.is("without a deadline", b.asked("process p { entry 0; priority 5; period " + period + "; }", 1, 7, 0, 0), 0);
            b.isState("period " + period, 0, 0, 2, 36, 5, -1, period, 9, period);
        }
        b.is("without a period", b.asked("process p { entry 0; priority 5; deadline 20; }", 1, 7, 0, 0), 3);
        b.isState("nothing is changed", 0, 0, 1, 36, 5, 20, -1, 9, 0);
    }

    // CALLS: "1 with a period: RELEASE is that more, it WAITS until then" A time that is over already ends in the next tick.
    private static void call1FarBehind(Bench b) {
        int[] periods = {1, 7, 8};
        for (int period : periods) {
            b.is("done", b.asked("process p { entry 0; priority 5; period " + period + "; deadline 99; }", 1, 7, 0, 0), 0);
            b.isState("until a time not above now", 0, 0, 2, 36, 5, period + 99, period, 9, period);
            b.is("the next tick", b.x.run(1), 1);
            b.isState("READY", 0, 0, 1, 36, 5, period + 99, -1, 10, period);
        }
    }

    // CALLS: "2: a 1 .. 100000: it WAITS until now + a; 0; else 1."
    private static void call2(Bench b) {
        int[] fine = {1, 2, 99999, 100000};
        for (int a : fine) {
            b.is("2 of " + a, b.asked(P, 2, a, 0, 0), 0);
            b.isState("2 of " + a, 0, 0, 2, 36, 5, -1, 8 + a);
        }
        int[] wrong = {0, -1, 100001, LOWEST, HIGHEST};
        for (int a : wrong) {
            b.is("2 of " + a, b.asked(P, 2, a, 0, 0), 1);
            b.isState("2 of " + a, 0, 0, 1, 36, 5, -1, -1);
        }
    }

    // CALLS: "3: process a, if DORMANT and no handler, BEGINS: 0; if it is not DORMANT 2 (the handler, too); else 1."
    private static void call3(Bench b) {
        b.is("DORMANT", b.asked(P + Q_STOPPED, 3, 1, 0, 0), 0);
        b.isState("BEGINS", 0, 1, 1, 512, 3, 58, -1, 0, 8, 0, 0);
        b.is("with a delay it BEGINS now, too", b.asked(P + "process q { entry 4; priority 3; delay 9; stopped; }", 3, 1, 0, 0), 0);
        b.isState("BEGINS", 0, 1, 1, 4, 3, -1, -1, 0, 8, 0, 0);
        b.is("READY", b.asked(P + Q, 3, 1, 0, 0), 2);
        b.is("WAITING", b.asked(P + "process q { entry 4; priority 3; delay 90; }", 3, 1, 0, 0), 2);
        b.is("itself", b.asked(P, 3, 0, 0, 0), 2);
        b.is("FAULTED", b.handlerAsked("", 3, 0, 0, 0), 2);
        b.is("a handler that is DORMANT", b.asked(P + H, 3, 1, 0, 0), 1);
        b.is("it stays so", b.x.state(0, 1, 0), 0);
        b.is("a handler that is not", b.handlerAsked("", 3, 1, 0, 0), 2);
        int[] none = {-1, 2, 16, LOWEST, HIGHEST};
        for (int a : none) {
            b.is("process " + a, b.asked(P + Q, 3, a, 0, 0), 1);
        }
        String sixteen = P + Bench.times(15, "process q# { entry 512; priority 3; stopped; } ");
        b.is("the last of sixteen", b.asked(sixteen, 3, 15, 0, 0), 0);
        b.is("READY", b.x.state(0, 15, 0), 1);
        b.is("no 17th", b.asked(sixteen, 3, 16, 0, 0), 1);
    }

    // CALLS: "4: process a, but a handler, is DORMANT (what it waits for is forgotten): 0 (itself, too: then no answer), 2 if
    // it is already; else 1."
    private static void call4(Bench b) {
        b.is("READY", b.asked(P + Q, 4, 1, 0, 0), 0);
        b.is("DORMANT", b.x.state(0, 1, 0), 0);
        b.is("itself: no answer", selfStopped(b), 1);
        b.is("DORMANT", b.x.state(0, 1, 0), 0);
        b.is("already", b.asked(P + Q_STOPPED, 4, 1, 0, 0), 2);
        b.is("a handler", b.asked(P + H, 4, 1, 0, 0), 1);
        b.is("the handler itself", b.handlerAsked("", 4, 1, 0, 0), 1);
        b.is("it goes on", b.x.state(0, 1, 0), 1);
        b.is("FAULTED", b.handlerAsked("", 4, 0, 0, 0), 0);
        b.is("DORMANT", b.x.state(0, 0, 0), 0);
        int[] none = {-1, 2, 16, LOWEST, HIGHEST};
        for (int a : none) {
            b.is("process " + a, b.asked(P + Q, 4, a, 0, 0), 1);
        }
    }

    /** Process 1 stops itself: its x10 stays 1. */
    private static int selfStopped(Bench b) {
        b.alone("process q { entry 768; priority 3; } process p { entry 0; priority 5; }");
        b.program(0, 0, Bench.ask(4, 1));
        b.x.begin();
        b.x.run(5);
        return b.x.register(0, 1, 10);
    }

    // CALLS: "4: process a, but a handler, is DORMANT (what it waits for is forgotten)"
    private static void call4Waiting(Bench b) {
        int[][] waits = {Bench.ask(8, 0, 90), Bench.ask(12, 0, 90), Bench.ask(14, 0, 90), Bench.ask(17, 0, 90), Bench.ask(2, 90),
            Bench.ask(26, 90)};
        int[][] gives = {Bench.ask(9, 0), Bench.ask(10, 0), Bench.ask(13, 0, 7, 0), Bench.ask(15, 0, 7), Bench.ask(6), Bench.ask(28, 0)};
        for (int i = 0; i < waits.length; i++) {
            b.alone("process w { entry 512; priority 9; } process p { entry 0; priority 5; } semaphore s 0 : 1; event e; buffer u 1;"
                    + " board o;");
            b.program(0, 512, waits[i]);
            b.program(0, 0, Bench.code(Bench.ask(4, 0), Bench.copy(20, 10), gives[i], Bench.STAY));
            b.x.begin();
            b.x.run(9);
            b.is("WAITS", b.x.state(0, 0, 0), 2);
            b.x.run(7);
            b.isState("DORMANT", 0, 0, 0, 532, 9, -1, -1);
            b.isRegister("the answer", 1, 20, 0);
            b.x.run(100);
            b.isState("nothing comes to it", 0, 0, 0, 532, 9, -1, -1, 5);
            b.isRegister("28 finds nobody that waits, 6 tells the time", 1, 10, i == 5 ? 2 : i == 4 ? 15 : 0);
            for (int sort = 0; sort < 4; sort++) {
                b.is("it is not for it", b.x.thing(0, sort, 0), i == sort ? 1 : 0);
                b.is("nobody waits", b.x.waiting(0, sort, 0), 0);
            }
        }
    }

    // CALLS: "5: process a has priority b (0 .. 15): 0; else 1."
    private static void call5(Bench b) {
        int[] fine = {0, 1, 14, 15};
        for (int n : fine) {
            b.is("priority " + n, b.asked(P + Q_STOPPED, 5, 1, n, 0), 0);
            b.is("of another", b.x.state(0, 1, 2), n);
            b.is("priority " + n, b.asked(P, 5, 0, n, 0), 0);
            b.is("its own", b.x.state(0, 0, 2), n);
            b.is("priority " + n, b.asked(P + H, 5, 1, n, 0), 0);
            b.is("the handler's", b.x.state(0, 1, 2), n);
        }
        int[] wrong = {-1, 16, 17, LOWEST, HIGHEST};
        for (int n : wrong) {
            b.is("priority " + n, b.asked(P + Q, 5, 1, n, 0), 1);
            b.is("stays", b.x.state(0, 1, 2), 3);
            b.is("process " + n, b.asked(P + Q, 5, n == 16 ? 2 : n, 7, 0), 1);
        }
        // it stands where it stood: the first of a priority stays the first
        b.is("like its own", b.asked(P + Q, 5, 1, 5, 0), 0);
        b.is("p goes on", b.x.partition(0, 10), 0);
        b.is("above its own", b.asked(P + Q, 5, 1, 6, 0), 0);
        b.is("q is next", b.x.partition(0, 10), 1);
    }

    // CALLS: "6: time."
    private static void call6(Bench b) {
        b.is("the tick that it is", b.asked(P, 6, 0, 0, 0), 8);
        b.alone(P);
        b.program(0, 0, Bench.set(17, 6), Bench.CALL, Bench.jump(0, -4));
        b.x.begin();
        b.x.run(500);
        b.isRegister("at 499", 0, 10, 499);
    }

    // CALLS: "7: nothing: it stands behind all others: 0."
    private static void call7(Bench b) {
        b.is("alone", b.asked(P, 7, 9, 0, 0), 0);
        b.is("it goes on", b.x.partition(0, 10), 0);
        b.is("with a lower one", b.asked(P + Q, 7, 9, 0, 0), 0);
        b.is("it goes on", b.x.partition(0, 10), 0);
        b.is("with an equal one", b.asked(P + Q.replace("priority 3", "priority 5"), 7, 9, 0, 0), 0);
        b.is("that is next", b.x.partition(0, 10), 1);
        b.is("by the handler", b.handlerAsked("", 7, 9, 0, 0), 0);
        b.is("it goes on", b.x.partition(0, 10), 1);
    }

    // CALLS: "20: error raised."
    private static void call20(Bench b) {
        int[] codes = {0, -1, LOWEST, HIGHEST};
        for (int code : codes) {
            b.is("no answer", b.asked(P, 20, code, 0, 0), code);
            b.isError("raised", 0, 8, 0, 0, 3, 0, code);
            b.is("skipped", b.x.state(0, 0, 1), 36);
        }
    }

    // CALLS: "21, 22: LOCKED one more (at most 8 times: else 2), one less (if it is 0: 2), the answer 0" One more.
    private static void call21(Bench b) {
        b.alone(P);
        b.program(0, 0, Bench.set(17, 21), Bench.CALL, Bench.jump(0, -4));
        b.x.begin();
        for (int n = 1; n <= 10; n++) {
            b.x.run(2);
            b.is("locks", b.x.partition(0, 9), Math.min(n, 8));
            b.isRegister("the answer " + n, 0, 10, n <= 8 ? 0 : 2);
        }
    }

    // CALLS: "21, 22: LOCKED one more (at most 8 times: else 2), one less (if it is 0: 2), the answer 0" One less.
    private static void call22(Bench b) {
        b.is("at 0", b.asked(P, 22, 9, 0, 0), 2);
        b.is("0 still", b.x.partition(0, 9), 0);
        b.alone(P);
        b.program(0, 0, Bench.set(17, 21), Bench.CALL, Bench.CALL, Bench.CALL, Bench.CALL, Bench.CALL, Bench.CALL, Bench.CALL,
                Bench.CALL, Bench.CALL, Bench.set(17, 22), Bench.CALL, Bench.jump(0, -4));
        b.x.begin();
        b.x.run(11);
        b.is("eight", b.x.partition(0, 9), 8);
        for (int n = 1; n <= 10; n++) {
            b.x.run(n == 1 ? 1 : 2);
            b.is("locks", b.x.partition(0, 9), Math.max(0, 8 - n));
            b.isRegister("the answer " + n, 0, 10, n <= 8 ? 0 : 2);
        }
    }

    // CALLS: "who is not who locked it can't come to that." While one lock is left nobody else goes on.
    private static void oneLockIsLeft(Bench b) {
        b.alone("process p { entry 0; priority 1; } process q { entry 512; priority 9; delay 2; } ");
        b.program(0, 0, Bench.code(Bench.set(17, 21), Bench.CALL, Bench.CALL, Bench.set(17, 22), Bench.CALL, Bench.set(5, 1), Bench.CALL));
        b.program(0, 512, Bench.STAY);
        b.x.begin();
        b.x.run(5);
        b.is("one is left", b.x.partition(0, 9), 1);
        b.is("who locked it", b.x.partition(0, 10), 0);
        b.x.run(1);
        b.isRegister("it goes on", 0, 5, 1);
        b.x.run(1);
        b.is("none is left", b.x.partition(0, 9), 0);
        b.is("the other is next", b.x.partition(0, 10), 1);
    }

    // CALLS: "the handler: 3; who is not who locked it can't come to that."
    private static void locksOfTheHandler(Bench b) {
        b.is("21", b.handlerAsked("", 21, 0, 0, 0), 3);
        b.is("no locks", b.x.partition(0, 9), 0);
        b.is("22", b.handlerAsked("", 22, 0, 0, 0), 3);
        b.alone(P + "process d { entry 4; priority 0; deadline 2; } " + H + "errors { late : handle; }");
        b.program(0, 0, Bench.set(17, 21), Bench.CALL, Bench.STAY);
        b.program(0, 768, Bench.code(Bench.ask(22), Bench.STAY));
        b.x.begin();
        b.x.run(10);
        b.isRegister("22 while another has locked", 2, 10, 3);
        b.is("still LOCKED", b.x.partition(0, 9), 1);
    }

    // CALLS: "23: the partition begins WARM (a = 0), COLD (1), is IDLE (2) (no answer, the tick is over); else 1."
    private static void call23(Bench b) {
        for (int a = 0; a < 3; a++) {
            b.is("x10", b.asked(P, 23, a, 0, 0), a == 2 ? 2 : 0);
            b.is("how", b.x.partition(0, 11), a == 2 ? 0 : 1 + a);
            b.is("how often", b.x.partition(0, 8), a == 2 ? 1 : 2);
            b.is("MODE", b.x.partition(0, 0), a == 2 ? 1 : 0);
            b.is("PC", b.x.state(0, 0, 1), a == 2 ? 36 : 0);
            b.is("RELEASE", b.x.state(0, 0, 6), a == 2 ? 0 : 8);
            b.is("by the handler", b.handlerAsked("", 23, a, 0, 0), a == 2 ? 2 : a == 0 ? 0 : 1);
            b.is("MODE", b.x.partition(0, 0), a == 2 ? 1 : 0);
            b.is("who was FAULTED", b.x.state(0, 0, 0), a == 2 ? 0 : 1);
            b.is("the handler", b.x.state(0, 1, 0), 0);
        }
        int[] wrong = {-1, 3, 4, LOWEST, HIGHEST};
        for (int a : wrong) {
            b.is("23 of " + a, b.asked(P, 23, a, 0, 0), 1);
            b.is("it goes on", b.x.state(0, 0, 1), 36);
            b.is("began once", b.x.partition(0, 8), 1);
        }
    }

    // CALLS: "24: the handler: x10 is the KIND (0 illegal, 1 memory, 2 late, 3 raised, 4 align), x11 the process, x12 its PC,
    // x13 the CODE; 2 if nothing is FAULTED; others 3."
    private static void call24(Bench b) {
        int[] words = {-1, Bench.fetch(0, 5, 0, -1), Bench.STAY, Bench.CALL, Bench.fetch(1, 5, 0, -1)};
        int[] codes = {-1, -1, 30, LOWEST, -1};
        for (int kind = 0; kind < 5; kind++) {
            b.alone("process z { entry 0; priority 0; stopped; } process p { entry 0; priority 5; deadline 30; } " + H
                    + "errors { illegal : handle; memory : handle; late : handle; raised : handle; align : handle; }");
            b.program(0, 0, Bench.code(Bench.set(17, 20), Bench.setLong(10, LOWEST), words[kind]));
            b.program(0, 768, Bench.code(Bench.ask(24), Bench.STAY));
            b.x.begin();
            b.x.run(kind == 2 ? 40 : 20);
            b.isRegister("KIND", 2, 10, kind);
            b.isRegister("process", 2, 11, 1);
            b.isRegister("PC", 2, 12, 12);
            b.isRegister("CODE", 2, 13, codes[kind]);
            b.isError("noted", 0, kind == 2 ? 31 : 3, 0, 1, kind, 6, codes[kind]);
        }
        b.alone(P + H + "errors { illegal : handle; }");
        b.program(0, 768, Bench.code(Bench.ask(25, 0), Bench.ask(24, 7, 8, 9), Bench.STAY));
        b.x.begin();
        b.x.run(11);
        b.isRegister("nothing is FAULTED", 1, 10, 2);
        b.isRegister("x11 stays", 1, 11, 8);
        b.isRegister("x12 stays", 1, 12, 9);
        b.is("others", b.asked(P + H, 24, 7, 8, 9), 3);
        b.isRegister("x11 stays", 0, 11, 8);
    }

    // CALLS: "25: the handler decides for who is FAULTED: a = 0: it is READY, with PC 4 more (but for late); 1: it is DORMANT;
    // 2: it BEGINS; the answer 0; else 1; 2 if nothing is FAULTED (ahead of 1); others 3 (ahead of all)."
    private static void call25(Bench b) {
        for (int a = 0; a < 3; a++) {
            b.is("25 of " + a, b.handlerAsked("", 25, a, 0, 0), 0);
            b.is("STATE", b.x.state(0, 0, 0), a == 1 ? 0 : 1);
            b.is("PC", b.x.state(0, 0, 1), a == 0 ? 4 : 0);
            b.is("RELEASE", b.x.state(0, 0, 6), a == 2 ? 9 : 0);
            b.is("the handler goes on", b.x.partition(0, 10), 1);
        }
        int[] wrong = {-1, 3, LOWEST, HIGHEST};
        for (int a : wrong) {
            b.is("25 of " + a, b.handlerAsked("", 25, a, 0, 0), 1);
            b.is("still FAULTED", b.x.state(0, 0, 0), 3);
            b.is("others", b.asked(P + H, 25, a, 0, 0), 3);
            b.alone(P + H + "errors { illegal : handle; }");
            b.program(0, 768, Bench.code(Bench.ask(25, 1), Bench.askLong(25, a, 0, 0), Bench.STAY));
            b.x.begin();
            b.x.run(15);
            b.isRegister("nothing is FAULTED", 1, 10, 2);
        }
        b.is("others", b.asked(P + H, 25, 0, 0, 0), 3);
    }

    // CALLS: "a = 0: it is READY, with PC 4 more (but for late)"
    private static void call25ForLate(Bench b) {
        for (int a = 0; a < 3; a++) {
            b.alone("process p { entry 0; priority 5; deadline 5; } " + H + "errors { late : handle; }");
            b.program(0, 0, Bench.set(5, 9), Bench.STAY);
            b.program(0, 768, Bench.code(Bench.ask(25, a), Bench.STAY));
            b.x.begin();
            b.x.run(11);
            b.is("STATE", b.x.state(0, 0, 0), a == 1 ? 0 : 1);
            b.is("PC", b.x.state(0, 0, 1), a == 2 ? 0 : 4);
            b.is("DUE", b.x.state(0, 0, 3), a == 2 ? 15 : -1);
            b.isRegister("x5", 0, 5, a == 2 ? 0 : 9);
        }
    }

    // CALLS: "26, t = a: it WAITS to be let go on (28; when the time is over the answer is 4); with a period 3 (behind 1 for a
    // TIME that is none, ahead of not waiting)."
    private static void call26(Bench b) {
        String periodic = "process p { entry 0; priority 5; period 50; } ";
        int[] times = {0, 1, 100000, -1};
        for (int t : times) {
            b.is("with a period", b.asked(periodic, 26, t, 0, 0), 3);
            b.is("READY", b.x.state(0, 0, 0), 1);
        }
        int[] none = {-2, 100001, LOWEST, HIGHEST};
        for (int t : none) {
            b.is("no TIME", b.asked(periodic, 26, t, 0, 0), 1);
            b.is("no TIME", b.asked(P, 26, t, 0, 0), 1);
        }
        b.is("with the least period", b.asked("process p { entry 0; priority 5; period 1; } ", 26, 0, 0, 0), 3);
        b.is("not to wait", b.asked(P, 26, 0, 0, 0), 2);
        b.is("x10 stays", b.asked(P, 26, 1, 0, 0), 1);
        b.is("WAITING", b.x.state(0, 0, 0), 2);
        b.x.run(1);
        b.isRegister("the time is over", 0, 10, 4);
    }

    // CALLS: "27: process a is HELD: 1 if there is none such, it is who calls, or the handler; else 3 if it has a period, or
    // locked the partition; else 2 if it is DORMANT, FAULTED or HELD; else 0."
    private static void call27(Bench b) {
        int[] none = {-1, 2, 16, LOWEST, HIGHEST};
        for (int a : none) {
            b.is("process " + a, b.asked(P + Q, 27, a, 0, 0), 1);
        }
        b.is("who calls", b.asked(P, 27, 0, 0, 0), 1);
        b.is("who calls, with a period", b.asked("process p { entry 0; priority 5; period 50; } ", 27, 0, 0, 0), 1);
        b.is("the handler", b.asked(P + H, 27, 1, 0, 0), 1);
        b.is("the handler, with a period", b.asked(P + H.replace("handler", "period 5; handler"), 27, 1, 0, 0), 1);
        b.is("the handler itself", b.handlerAsked("", 27, 1, 0, 0), 1);
        b.is("with a period", b.asked(P + "process q { entry 4; priority 3; period 9; } ", 27, 1, 0, 0), 3);
        b.is("with the least period", b.asked(P + "process q { entry 4; priority 3; period 1; } ", 27, 1, 0, 0), 3);
        b.is("DORMANT, with a period", b.asked(P + "process q { entry 4; priority 3; period 9; stopped; } ", 27, 1, 0, 0), 3);
        b.is("DORMANT", b.asked(P + Q_STOPPED, 27, 1, 0, 0), 2);
        b.is("FAULTED", b.handlerAsked("", 27, 0, 0, 0), 2);
        b.is("READY", b.asked(P + Q, 27, 1, 0, 0), 0);
        b.is("HELD", b.x.state(0, 1, 8), 1);
        b.is("WAITING", b.asked(P + "process q { entry 4; priority 3; delay 90; } ", 27, 1, 0, 0), 0);
        b.is("HELD", b.x.state(0, 1, 8), 1);
        b.alone(P + Q);
        b.program(0, 0, Bench.code(Bench.ask(27, 1), Bench.ask(27, 1), Bench.STAY));
        b.x.begin();
        b.x.run(10);
        b.isRegister("HELD already", 0, 10, 2);
        b.alone(P + Q);
        b.program(0, 0, Bench.code(Bench.set(17, 21), Bench.CALL, Bench.ask(27, 1), Bench.STAY));
        b.x.begin();
        b.x.run(7);
        b.isRegister("LOCKED, but not by it", 0, 10, 0);
        b.is("HELD", b.x.state(0, 1, 8), 1);
        // the handler asks for who locked the partition
        b.alone(P + "process d { entry 4; priority 0; deadline 2; } " + H + "errors { late : handle; }");
        b.program(0, 0, Bench.set(17, 21), Bench.CALL, Bench.STAY);
        b.program(0, 768, Bench.code(Bench.ask(27, 0), Bench.STAY));
        b.x.begin();
        b.x.run(10);
        b.isRegister("who locked the partition", 2, 10, 3);
        b.is("not HELD", b.x.state(0, 0, 8), 0);
    }

    // CALLS: "28: process a may go on: if it WAITS for that it is READY; if it is HELD it is so no more (and, if READY, stands
    // behind all others): 0; neither: 2; else 1."
    private static void call28(Bench b) {
        int[] none = {-1, 2, 16, LOWEST, HIGHEST};
        for (int a : none) {
            b.is("process " + a, b.asked(P + Q, 28, a, 0, 0), 1);
        }
        b.is("READY", b.asked(P + Q, 28, 1, 0, 0), 2);
        b.is("itself", b.asked(P, 28, 0, 0, 0), 2);
        b.is("DORMANT", b.asked(P + Q_STOPPED, 28, 1, 0, 0), 2);
        b.is("a handler", b.asked(P + H, 28, 1, 0, 0), 2);
        b.is("FAULTED", b.handlerAsked("", 28, 0, 0, 0), 2);
        b.is("WAITING for a time", b.asked(P + "process q { entry 4; priority 3; delay 90; } ", 28, 1, 0, 0), 2);
        b.is("still waits", b.x.state(0, 1, 4), 90);
        // HELD and READY: behind all others of its priority; HELD and WAITING for another thing: it waits on
        b.alone("process q { entry 512; priority 3; } process r { entry 512; priority 3; } process p { entry 0; priority 5; }");
        b.program(0, 0, Bench.code(Bench.ask(27, 0), Bench.ask(28, 0), Bench.copy(20, 10), Bench.ask(0)));
        b.x.begin();
        b.x.run(5);
        b.is("HELD", b.x.state(0, 0, 8), 1);
        b.x.run(11);
        b.isRegister("may go on", 2, 20, 0);
        b.is("no more HELD", b.x.state(0, 0, 8), 0);
        b.is("behind r", b.x.partition(0, 10), 1);
        b.alone("process w { entry 512; priority 9; } process p { entry 0; priority 5; } semaphore s 0 : 1;");
        b.program(0, 512, Bench.code(Bench.ask(8, 0, 90), Bench.STAY));
        b.program(0, 0, Bench.code(Bench.ask(27, 0), Bench.ask(28, 0), Bench.STAY));
        b.x.begin();
        b.x.run(15);
        b.isRegister("may go on", 1, 10, 0);
        b.isState("waits on", 0, 0, 2, 532, 9, -1, 94, 5, 0, 0, 0);
    }

    // CALLS: "(and, if READY, stands behind all others)" Who is not READY keeps its turn.
    private static void call28KeepsTheTurn(Bench b) {
        b.alone("process v { entry 512; priority 9; } process w { entry 512; priority 9; } process p { entry 0; priority 5; } semaphore s 0 : 1;");
        b.program(0, 512, Bench.code(Bench.ask(8, 0, -1), Bench.STAY));
        b.program(0, 0, Bench.code(Bench.ask(27, 0), Bench.ask(28, 0), Bench.ask(9, 0), Bench.STAY));
        b.x.begin();
        b.x.run(20);
        b.is("not HELD", b.x.state(0, 0, 8), 0);
        b.is("both wait", b.x.waiting(0, 0, 0), 2);
        b.x.run(5);
        b.is("the first one to wait", b.x.state(0, 0, 0), 1);
        b.is("the other waits", b.x.state(0, 1, 0), 2);
    }

    // CALLS: "29: a 1 .. 100000, else 1: DUE is now + a: 0; 3 without a deadline, or with a period if that is above RELEASE +
    // the period."
    private static void call29(Bench b) {
        String d = "process p { entry 0; priority 5; deadline 50; } ";
        int[] fine = {1, 2, 99999, 100000};
        for (int a : fine) {
            b.is("29 of " + a, b.asked(d, 29, a, 0, 0), 0);
            b.is("DUE", b.x.state(0, 0, 3), 8 + a);
            b.is("without a deadline", b.asked(P, 29, a, 0, 0), 3);
            b.is("no DUE", b.x.state(0, 0, 3), -1);
        }
        int[] wrong = {0, -1, 100001, LOWEST, HIGHEST};
        for (int a : wrong) {
            b.is("29 of " + a, b.asked(d, 29, a, 0, 0), 1);
            b.is("DUE stays", b.x.state(0, 0, 3), 50);
            b.is("ahead of 3", b.asked(P, 29, a, 0, 0), 1);
        }
    }

    // CALLS: "3 without a deadline, or with a period if that is above RELEASE + the period."
    private static void call29WithAPeriod(Bench b) {
        String t = "process p { entry 0; priority 5; period 20; deadline 15; } ";
        b.is("below RELEASE + the period", b.asked(t, 29, 11, 0, 0), 0);
        b.is("DUE", b.x.state(0, 0, 3), 19);
        b.is("RELEASE + the period", b.asked(t, 29, 12, 0, 0), 0);
        b.is("DUE", b.x.state(0, 0, 3), 20);
        b.is("above it", b.asked(t, 29, 13, 0, 0), 3);
        b.is("DUE stays", b.x.state(0, 0, 3), 15);
        b.is("above it", b.asked(t, 29, 100000, 0, 0), 3);
        b.is("no number", b.asked(t, 29, 100001, 0, 0), 1);
        b.is("the least period", b.asked("process p { entry 0; priority 5; period 1; deadline 15; } ", 29, 1, 0, 0), 3);
        for (int a = 11; a <= 13; a++) {
            b.alone(t);
            b.program(0, 0, Bench.code(Bench.ask(1), Bench.askLong(29, a, 0, 0), Bench.STAY));
            b.x.begin();
            b.x.run(29);
            b.is("RELEASE", b.x.state(0, 0, 6), 20);
            b.isRegister("at 28, of " + a, 0, 10, a <= 12 ? 0 : 3);
            b.is("DUE", b.x.state(0, 0, 3), a <= 12 ? 28 + a : 35);
        }
    }

    // CALLS: "30: of process a x11 is the STATE, x12 the priority, x13 DUE (-1 without): 0; else 1."
    private static void call30(Bench b) {
        String[] others = {Q, Q_STOPPED, "process q { entry 4; priority 15; deadline 100000; delay 100000; } ", H};
        int[][] wants = {{1, 3, -1}, {0, 3, -1}, {2, 15, 200000}, {0, 0, -1}};
        for (int i = 0; i < others.length; i++) {
            b.is("30", b.asked(P + others[i], 30, 1, 0, 0), 0);
            for (int k = 0; k < 3; k++) {
                b.isRegister("30", 0, 11 + k, wants[i][k]);
            }
        }
        b.is("FAULTED", b.handlerAsked("", 30, 0, 0, 0), 0);
        b.isRegister("STATE", 1, 11, 3);
        int[] none = {-1, 1, 16, LOWEST, HIGHEST};
        for (int a : none) {
            b.is("process " + a, b.asked(P, 30, a, 7, 9), 1);
            b.isRegister("x11 stays", 0, 11, 7);
            b.isRegister("x12 stays", 0, 12, 9);
            b.isRegister("x13 stays", 0, 13, 0);
        }
    }

    // CALLS: "31: its own number."
    private static void call31(Bench b) {
        b.is("the first", b.asked(P, 31, 9, 0, 0), 0);
        b.alone(Bench.times(15, "process q# { entry 0; priority 0; } ") + P);
        b.program(0, 0, Bench.ask(31, 9));
        b.x.begin();
        b.x.run(5);
        b.isRegister("the last of sixteen", 15, 10, 15);
        b.is("the handler", b.handlerAsked("", 31, 9, 0, 0), 1);
    }

    // CALLS: "32: x11 is the partition's number, x12 how it began last (0 by begin(), 1 WARM, 2 COLD by a call, 3 by an error),
    // x13 its locks: 0."
    private static void call32(Bench b) {
        b.is("by begin()", b.asked(P, 32, 7, 8, 9), 0);
        for (int i = 0; i < 3; i++) {
            b.isRegister("32", 0, 11 + i, 0);
        }
        b.fresh();
        b.load(Bench.times(15, "partition b# { memory 256; } ") + "partition a { memory 256; " + P + "} frame { a 100; }");
        b.program(15, 0, Bench.code(Bench.set(17, 21), Bench.CALL, Bench.CALL, Bench.CALL, Bench.CALL, Bench.CALL, Bench.CALL, Bench.CALL,
                Bench.CALL, Bench.set(17, 32), Bench.CALL, Bench.STAY));
        b.x.begin();
        b.x.run(11);
        b.is("the last of sixteen", b.x.register(15, 0, 11), 15);
        b.is("by begin()", b.x.register(15, 0, 12), 0);
        b.is("the most locks", b.x.register(15, 0, 13), 8);
        // q ends what p did so far: by a call at 13, by an error at 9; p asks anew from the next tick on
        String q = P + "process q { entry 512; priority 9; delay 9; } ";
        for (int a = 0; a < 2; a++) {
            b.alone(q);
            b.program(0, 0, Bench.code(Bench.ask(32), Bench.STAY));
            b.program(0, 512, Bench.ask(23, a));
            b.x.begin();
            b.x.run(14 + 5);
            b.isRegister("by a call", 0, 12, 1 + a);
        }
        String[] actions = {"warm", "cold"};
        for (String action : actions) {
            b.alone(q + "errors { illegal : " + action + "; }");
            b.program(0, 0, Bench.code(Bench.ask(32), Bench.STAY));
            b.x.begin();
            b.x.run(10 + 5);
            b.isRegister("by an error", 0, 12, 3);
        }
    }

    // CALLS: "33: of thing b of sort a (as in thing(); of a port its channel's words, 0 without a channel) x11 is what thing()
    // tells, x12 how many of this partition WAIT for it" .. "0; else 1."
    private static void call33(Bench b) {
        String things = P + Bench.times(8, "semaphore s# 7 : 100; event e#; buffer u# 1; board o#; ") + "port i in queuing; ";
        for (int sort = 0; sort < 5; sort++) {
            int count = sort == 4 ? 1 : 8;
            b.is("the last of sort " + sort, b.asked(things, 33, sort, count - 1, 9), 0);
            b.isRegister("what thing() tells", 0, 11, sort == 0 ? 7 : 0);
            b.isRegister("nobody waits", 0, 12, 0);
            int[] none = {-1, count, LOWEST, HIGHEST};
            for (int k : none) {
                b.is("thing " + k, b.asked(things, 33, sort, k, 9), 1);
                b.isRegister("x11 stays", 0, 11, k);
                b.isRegister("x12 stays", 0, 12, 9);
            }
        }
        int[] sorts = {-1, 5, 6, LOWEST, HIGHEST};
        for (int sort : sorts) {
            b.is("sort " + sort, b.asked(things, 33, sort, 0, 0), 1);
        }
        int[] waits = {8, 12, 14, 17};
        for (int sort = 0; sort < 4; sort++) {
            b.alone(P + Bench.times(14, "process w# { entry 512; priority 9; } ") + "semaphore s 0 : 1; event e; buffer u 1; board o;");
            b.program(0, 512, Bench.ask(waits[sort], 0, -1));
            b.program(0, 0, Bench.code(Bench.ask(33, sort, 0), Bench.STAY));
            b.x.begin();
            b.x.run(75);
            b.isRegister("fourteen wait", 0, 12, 14);
            b.isRegister("nothing is there", 0, 11, 0);
        }
    }

    // CALLS: "of a port its channel's words, 0 without a channel" .. "(to put or to take; for a port those who called by that
    // very port)"
    private static void call33OfPorts(Bench b) {
        String text = "partition a { memory 1024; process p { entry 0; priority 5; } process w { entry 512; priority 9; } port r out queuing;"
                + " port q in queuing; port n in queuing; port s out sampling; } channel queuing 1 { a.r > a.q }"
                + " channel sampling 0 { a.s > output } frame { a 10; }";
        int[][] rows = {{0, 1, 1}, {1, 1, 0}, {2, 0, 0}, {3, 1, 0}};
        for (int[] row : rows) {
            b.fresh();
            b.load(text);
            b.program(0, 512, Bench.code(Bench.ask(18, 3, 5), Bench.ask(18, 0, 6, -1), Bench.ask(18, 0, 7, -1)));
            b.program(0, 0, Bench.code(Bench.ask(33, 4, row[0]), Bench.STAY));
            b.x.begin();
            b.x.run(20);
            b.isRegister("33", 0, 10, 0);
            b.isRegister("words of port " + row[0], 0, 11, row[1]);
            b.isRegister("who waits at port " + row[0], 0, 12, row[2]);
        }
        b.fresh();
        b.load(text);
        b.program(0, 512, Bench.ask(19, 1, -1));
        b.program(0, 0, Bench.code(Bench.ask(33, 4, 1), Bench.STAY));
        b.x.begin();
        b.x.run(10);
        b.isRegister("no words", 0, 11, 0);
        b.isRegister("one waits to take", 0, 12, 1);
        b.is("none at the other end", b.x.waiting(0, 4, 0), 0);
    }

    // CALLS: "34: as 3, but it BEGINS at now + b (b 1 .. 100000; else 1, ahead of 2)."
    private static void call34(Bench b) {
        int[] fine = {1, 2, 99999, 100000};
        for (int t : fine) {
            b.is("34 in " + t, b.asked(P + Q_STOPPED, 34, 1, t, 0), 0);
            b.isState("BEGINS later", 0, 1, 2, 512, 3, 58 + t, 8 + t, 0, 8 + t, 0, 0);
            b.is("READY", b.asked(P + Q, 34, 1, t, 0), 2);
            b.is("itself", b.asked(P, 34, 0, t, 0), 2);
            b.is("a handler that is DORMANT", b.asked(P + H, 34, 1, t, 0), 1);
            b.is("a handler that is not", b.handlerAsked("", 34, 1, t, 0), 2);
            b.is("FAULTED", b.handlerAsked("", 34, 0, t, 0), 2);
            b.is("no such", b.asked(P, 34, 1, t, 0), 1);
            b.is("no such", b.asked(P, 34, -1, t, 0), 1);
        }
        int[] wrong = {0, -1, 100001, LOWEST, HIGHEST};
        for (int t : wrong) {
            b.is("34 in " + t, b.asked(P + Q_STOPPED, 34, 1, t, 0), 1);
            b.is("DORMANT", b.x.state(0, 1, 0), 0);
            b.is("ahead of 2", b.asked(P + Q, 34, 1, t, 0), 1);
            b.is("ahead of 2", b.handlerAsked("", 34, 1, t, 0), 1);
        }
    }

    // CALLS: "35: x11 is how many ticks of this window are left (this one counted), x12 how many lie between it and the next
    // window of this partition (0 if that follows at once), x13 the FRAME's ticks: 0."
    private static void call35(Bench b) {
        String[] frames = {"a 1;", "a 200;", "a 9; b 200;", "a 9; a 9;", "a 8; a 9; b 7; c 3;", "b 8; a 1;", "b 8; a 1; c 5; a 3;",
            "b 7; a 2; c 5;", "b 6; a 3; a 1;", Bench.times(23, "a 1; ") + "b 200;", "b 6; a 3; b 200; c 200; b 1;"};
        for (String frame : frames) {
            b.fresh();
            b.load("partition a { memory 256; process p { entry 0; priority 5; } } partition b { memory 256; }"
                    + " partition c { memory 256; } frame { " + frame + " }");
            b.program(0, 0, Bench.set(17, 35), Bench.CALL, Bench.jump(0, -4));
            b.x.begin();
            windowsOf(b, frame);
        }
    }

    /** Three frames tick by tick; PC is 8 just behind the call. */
    private static void windowsOf(Bench b, String frame) {
        String[] windows = frame.split("; |;");
        StringBuilder owners = new StringBuilder();
        StringBuilder numbers = new StringBuilder();
        for (int i = 0; i < windows.length; i++) {
            int ticks = Integer.parseInt(windows[i].substring(2));
            owners.append(windows[i].substring(0, 1).repeat(ticks));
            numbers.append(String.valueOf((char) i).repeat(ticks));
        }
        int all = owners.length();
        for (int t = 0; t < 3 * all; t++) {
            b.x.run(1);
            if (owners.charAt(t % all) == 'a' && b.x.state(0, 0, 1) == 8) {
                int end = t + 1;
                while (end % all != 0 && numbers.charAt(end % all) == numbers.charAt(t % all)) {
                    end++;
                }
                int next = end;
                while (owners.charAt(next % all) != 'a') {
                    next++;
                }
                b.isRegister("35 at " + t + " of " + frame, 0, 10, 0);
                b.isRegister("left at " + t + " of " + frame, 0, 11, end - t);
                b.isRegister("between at " + t + " of " + frame, 0, 12, next - end);
                b.isRegister("ticks of " + frame, 0, 13, all);
            }
        }
    }

    // CALLS: "36: a sort (as in thing(), 5 a process), b a place, c letters, 1 .. 12, all within the memory, whatever the
    // regions (else 1): x11 is the number of the one of that sort in this partition whose name lies there: 0; 2 if there is
    // none."
    private static void call36(Bench b) {
        String things = P + "semaphore x 0 : 1; event y; event x1; buffer z 1; board abcdefghijkl; port w in sampling; ";
        int[][] rows = {{0, 1, 'x', 0, 0}, {1, 1, 'y', 0, 0}, {2, 1, 'z', 0, 0}, {4, 1, 'w', 0, 0}, {5, 1, 'p', 0, 0}, {1, 1, 'x', 2, 7},
            {0, 1, 'y', 2, 7}, {5, 1, 'x', 2, 7}, {0, 1, 'X', 2, 7}, {0, 1, 0, 2, 7}, {0, 1, 255, 2, 7}, {0, 1, '1', 2, 7},
            {-1, 1, 'x', 1, 7}, {6, 1, 'x', 1, 7}, {LOWEST, 1, 'x', 1, 7}, {HIGHEST, 1, 'x', 1, 7}, {0, 0, 'x', 1, 7},
            {0, 13, 'x', 1, 7}, {0, -1, 'x', 1, 7}, {0, LOWEST, 'x', 1, 7}, {0, HIGHEST, 'x', 1, 7}, {0, 2, 'x', 2, 7},
            {0, 12, 'x', 2, 7}};
        for (int[] row : rows) {
            b.alone(things);
            b.x.image(0, 600, row[2]);
            b.is("36 of sort " + row[0] + ", " + row[1] + " letters, " + row[2], b.called(36, row[0], 600, row[1]), row[3]);
            b.isRegister("its number", 0, 11, row[3] == 0 ? row[4] : 600);
        }
        b.alone(things);
        b.x.image(0, 600, 'x' | '1' << 8);
        b.is("two letters", b.called(36, 1, 600, 2), 0);
        b.isRegister("the second event", 0, 11, 1);
        b.alone(things);
        b.x.image(0, 600, 'x' | '1' << 8);
        b.is("the first letter of two", b.called(36, 0, 600, 1), 0);
        b.alone(things);
        b.x.image(0, 600, 'a' | 'b' << 8 | 'c' << 16 | 'd' << 24);
        b.x.image(0, 604, 'e' | 'f' << 8 | 'g' << 16 | 'h' << 24);
        b.x.image(0, 608, 'i' | 'j' << 8 | 'k' << 16 | 'l' << 24);
        b.is("twelve letters", b.called(36, 3, 600, 12), 0);
        b.isRegister("the board", 0, 11, 0);
        String eight = P + Bench.times(8, "event e#; ");
        b.alone(eight);
        b.x.image(0, 600, 'e' | '7' << 8);
        b.is("the last of eight", b.called(36, 1, 600, 2), 0);
        b.isRegister("its number", 0, 11, 7);
    }

    // CALLS: "b a place, c letters, 1 .. 12, all within the memory, whatever the regions (else 1)"
    private static void call36AtTheEnds(Bench b) {
        int[][] rows = {{1023, 1, 0}, {1022, 2, 2}, {1012, 12, 2}, {1024, 1, 1}, {1023, 2, 1}, {1013, 12, 1}, {-1, 1, 1}, {-1, 2, 1},
            {-12, 12, 1}, {LOWEST, 1, 1}, {HIGHEST, 1, 1}, {HIGHEST, 12, 1}, {HIGHEST - 11, 12, 1}, {0, 1, 2}, {0, 12, 2}};
        for (int[] row : rows) {
            b.alone(P + "event x; ");
            b.x.image(0, 1020, 'x' << 24);
            b.is("place " + row[0] + ", " + row[1] + " letters", b.called(36, 1, row[0], row[1]), row[2]);
        }
        String[] sorts = {"code", "data", "table", "all"};
        for (String sort : sorts) {
            b.alone("regions { 512 code; 512 " + sort + "; } " + P + "event x; ");
            b.x.image(0, 512, 'x');
            b.is("in " + sort, b.called(36, 1, 512, 1), 0);
            b.isRegister("its number", 0, 11, 0);
        }
        int[] none = {0, '`', '{', '/', ':', 'A', 127, 128, 255};
        for (int letter : none) {
            b.alone(P + "event a; event z; ");
            b.x.image(0, 600, letter);
            b.is("byte " + letter + " is no letter", b.called(36, 1, 600, 1), 2);
            b.alone(P + "event a; event z; ");
            b.x.image(0, 600, 'a' | letter << 8);
            b.is("byte " + letter + " behind a letter", b.called(36, 1, 600, 2), 2);
        }
        b.alone("process pqrs { entry 4; priority 5; } ");
        b.x.image(0, 0, 'p' | 'q' << 8 | 'r' << 16 | 's' << 24);
        b.program(0, 4, Bench.ask(36, 5, 0, 4));
        b.x.begin();
        b.x.run(5);
        b.isRegister("at place 0", 0, 10, 0);
    }
}
