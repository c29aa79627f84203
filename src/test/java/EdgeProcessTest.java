/** Edges of the term PROCESSES: how they begin, are HELD, and how partitions begin. Above each test stands its sentence. */
public final class EdgeProcessTest {
    private static final String P = "process p { entry 0; priority 5; } ";
    private static final String H = "process h { entry 768; priority 0; handler; } ";

    public static void main(String[] args) {
        Bench b = new Bench();
        beginsNow(b);
        beginsLater(b);
        beginsAnew(b);
        dormantHasNoDue(b);
        heldWhileReady(b);
        heldWhileWaiting(b);
        whoBeginsIsNotHeld(b);
        whoIsDormantIsNotHeld(b);
        whoIsFaultedIsNotHeld(b);
        standsBehindAllThatAre(b);
        idleForEver(b);
        warm(b);
        warmWithNobody(b);
        warmInOrder(b);
        cold(b);
        idle(b);
        b.finish();
    }

    // PROCESSES: "To BEGIN one, now or at a later time t: registers 0, PC its entry, READY (for a later time it WAITS until t),
    // RELEASE t, DUE t + its deadline (if it has one)." Now.
    private static void beginsNow(Bench b) {
        b.alone("process p { entry 0; priority 5; } process q { entry 1020; priority 5; deadline 1; }"
                + " process r { entry 4; priority 5; deadline 100000; }");
        b.x.begin();
        b.isState("without a deadline", 0, 0, 1, 0, 5, -1, -1, 0, 0, 0, 0);
        b.isState("the least deadline", 0, 1, 1, 1020, 5, 1, -1, 0, 0, 0, 0);
        b.isState("the greatest deadline", 0, 2, 1, 4, 5, 100000, -1, 0, 0, 0, 0);
    }

    // PROCESSES: "READY (for a later time it WAITS until t), RELEASE t, DUE t + its deadline (if it has one)." Later.
    private static void beginsLater(Bench b) {
        b.alone("process p { entry 0; priority 5; delay 1; } process q { entry 4; priority 4; deadline 100000; delay 100000; }");
        b.program(0, 0, Bench.STAY);
        b.x.begin();
        b.isState("the least delay", 0, 0, 2, 0, 5, -1, 1, 0, 1, 0, 0);
        b.isState("the greatest delay", 0, 1, 2, 4, 4, 200000, 100000, 0, 100000, 0, 0);
        b.is("nobody is READY", b.x.partition(0, 10), -1);
        b.is("nothing at 0", b.x.run(1), 0);
        b.isState("still waits", 0, 0, 2, 0, 5, -1, 1);
        b.is("at 1 it runs", b.x.run(1), 1);
        b.isState("READY", 0, 0, 1, 0, 5, -1, -1, 1, 1);
        for (int n = 0; n < 199; n++) {
            b.x.run(500);
        }
        b.x.run(498);
        b.is("time", b.x.about(0), 100000);
        b.is("q still waits", b.x.state(0, 1, 0), 2);
        b.x.run(1);
        b.isState("q is READY", 0, 1, 1, 4, 4, 200000, -1, 0, 100000);
    }

    // PROCESSES: "To BEGIN one, now or at a later time t: registers 0, PC its entry" What it was before is gone.
    private static void beginsAnew(Bench b) {
        b.alone("process p { entry 4; priority 5; deadline 50; } errors { illegal : again; }");
        int[] words = new int[33];
        for (int x = 1; x < 32; x++) {
            words[x] = Bench.set(x, x);
        }
        b.program(0, 0, words);
        b.x.begin();
        b.x.run(31);
        b.isRegister("set", 0, 31, 31);
        b.x.run(1);
        b.isState("anew", 0, 0, 1, 4, 5, 81, -1, 32, 31);
        for (int x = 0; x < 32; x++) {
            b.isRegister("anew", 0, x, 0);
        }
    }

    // PROCESSES: "Who is DORMANT has no DUE."
    private static void dormantHasNoDue(Bench b) {
        int[][] ends = {Bench.ask(0), Bench.ask(4, 0), Bench.ask(23, 2), {0}};
        for (int[] end : ends) {
            b.alone("process p { entry 0; priority 5; deadline 9; } process q { entry 8; priority 1; deadline 7; stopped; }"
                    + " errors { illegal : stop; }");
            b.program(0, 0, end);
            b.is("ahead of begin()", b.x.state(0, 0, 3), -1);
            b.x.begin();
            b.is("due", b.x.state(0, 0, 3), 9);
            b.is("it has not begun", b.x.state(0, 1, 3), -1);
            b.x.run(end.length);
            b.is("DORMANT", b.x.state(0, 0, 0), 0);
            b.is("no due", b.x.state(0, 0, 3), -1);
            int errors = b.x.about(1);
            b.x.run(100);
            b.is("never late", b.x.about(1), errors);
        }
    }

    // PROCESSES: "One may be HELD, too: READY or not, no instruction of it is done" READY.
    private static void heldWhileReady(Bench b) {
        b.alone(P + "process q { entry 256; priority 3; }");
        b.program(0, 0, Bench.code(Bench.ask(27, 1), Bench.ask(0)));
        b.program(0, 256, Bench.STAY);
        b.x.begin();
        b.is("p, till it ends", b.x.run(100), 10);
        b.isState("READY and HELD", 0, 1, 1, 256, 3, -1, -1, 0, 0, 0, 1);
        b.is("nobody", b.x.partition(0, 10), -1);
    }

    // PROCESSES: "One may be HELD, too: READY or not, no instruction of it is done" Not READY.
    private static void heldWhileWaiting(Bench b) {
        b.alone("process q { entry 256; priority 9; } process p { entry 0; priority 5; } semaphore s 0 : 1;");
        b.program(0, 0, Bench.code(Bench.ask(27, 0), Bench.ask(0)));
        b.program(0, 256, Bench.code(Bench.ask(8, 0, 15), Bench.STAY));
        b.x.begin();
        b.x.run(10);
        b.isState("WAITS and is HELD", 0, 0, 2, 276, 9, -1, 19, 5, 0, 0, 1);
        b.x.run(9);
        b.is("still waits", b.x.state(0, 0, 0), 2);
        b.is("its time is over", b.x.run(1), 0);
        b.isState("READY and HELD", 0, 0, 1, 276, 9, -1, -1, 5, 0, 0, 1);
        b.isRegister("the answer", 0, 10, 4);
        b.is("no instruction", b.x.run(50), 0);
    }

    // PROCESSES: "who BEGINS, is DORMANT or FAULTED is not HELD." Who BEGINS.
    private static void whoBeginsIsNotHeld(Bench b) {
        b.alone(P + "process q { entry 256; priority 3; deadline 9; } errors { late : again; }");
        b.program(0, 0, Bench.code(Bench.ask(27, 1), Bench.ask(0)));
        b.program(0, 256, Bench.STAY);
        b.x.begin();
        b.x.run(10);
        b.is("HELD", b.x.state(0, 1, 8), 1);
        b.is("it BEGINS, and goes on at once", b.x.run(1), 1);
        b.isState("not HELD", 0, 1, 1, 256, 3, 19, -1, 1, 10, 0, 0);
        b.alone(P + "process q { entry 256; priority 3; }");
        b.program(0, 0, Bench.code(Bench.ask(27, 1), Bench.ask(23, 0)));
        b.x.begin();
        b.x.run(9);
        b.is("HELD", b.x.state(0, 1, 8), 1);
        b.x.run(1);
        b.isState("WARM: not HELD", 0, 1, 1, 256, 3, -1, -1, 0, 9, 0, 0);
    }

    // PROCESSES: "who BEGINS, is DORMANT or FAULTED is not HELD." Who is DORMANT.
    private static void whoIsDormantIsNotHeld(Bench b) {
        int[][] ends = {Bench.ask(4, 1), Bench.ask(23, 2)};
        for (int[] end : ends) {
            b.alone(P + "process q { entry 256; priority 3; }");
            b.program(0, 0, Bench.code(Bench.ask(27, 1), end));
            b.x.begin();
            b.x.run(9);
            b.is("HELD", b.x.state(0, 1, 8), 1);
            b.x.run(1);
            b.isState("DORMANT", 0, 1, 0, 256, 3, -1, -1, 0, 0, 0, 0);
        }
    }

    // PROCESSES: "who BEGINS, is DORMANT or FAULTED is not HELD." Who is FAULTED.
    private static void whoIsFaultedIsNotHeld(Bench b) {
        b.alone(P + "process q { entry 256; priority 3; deadline 9; } " + H + "errors { late : handle; }");
        b.program(0, 0, Bench.code(Bench.ask(27, 1), Bench.STAY));
        b.program(0, 768, Bench.STAY);
        b.x.begin();
        b.x.run(10);
        b.is("HELD", b.x.state(0, 1, 8), 1);
        b.x.run(1);
        b.isState("FAULTED", 0, 1, 3, 256, 3, -1, -1, 0, 0, 0, 0);
    }

    // PROCESSES: "Who becomes READY stands behind all in its partition that are."
    private static void standsBehindAllThatAre(Bench b) {
        // q waits and is READY again while r, of the same priority, is READY: r is ahead of it
        b.alone("process q { entry 256; priority 5; } process r { entry 512; priority 5; } semaphore s 0 : 1;");
        b.program(0, 256, Bench.code(Bench.ask(8, 0, 3), Bench.STAY));
        b.program(0, 512, Bench.STAY);
        b.x.begin();
        b.is("the first in order", b.x.partition(0, 10), 0);
        b.x.run(5);
        b.is("r", b.x.partition(0, 10), 1);
        b.x.run(20);
        b.is("q is READY", b.x.state(0, 0, 0), 1);
        b.is("r still", b.x.partition(0, 10), 1);
        b.is("q did no more", b.x.state(0, 0, 5), 5);
        // p makes q READY, a process of its own priority: p goes on
        b.alone(P + "process q { entry 256; priority 5; stopped; }");
        b.program(0, 0, Bench.code(Bench.ask(3, 1), Bench.STAY));
        b.x.begin();
        b.x.run(5);
        b.is("READY", b.x.state(0, 1, 0), 1);
        b.is("p goes on", b.x.partition(0, 10), 0);
    }

    // PROCESSES: "A partition's MODE: 0 NORMAL, 1 IDLE (nothing happens in it any more)."
    private static void idleForEver(Bench b) {
        b.fresh();
        b.load("partition a { memory 256; process p { entry 0; priority 5; } process q { entry 128; priority 9; deadline 40; }"
                + " port i in queuing; semaphore s 0 : 1; } partition b { memory 256; process p { entry 0; priority 1; } }"
                + " channel queuing 1 { input > a.i } frame { a 9; b 1; }");
        b.program(0, 0, Bench.code(Bench.set(17, 23), Bench.set(10, 2), Bench.CALL));
        b.program(0, 128, Bench.code(Bench.set(17, 8), Bench.set(11, 30), Bench.CALL));
        b.program(1, 0, Bench.STAY);
        b.x.input(0, 100, 1);
        b.x.input(0, 101, 2);
        b.x.begin();
        b.is("NORMAL", b.x.partition(0, 0), 0);
        b.is("six instructions", b.x.run(10), 7);
        b.is("IDLE", b.x.partition(0, 0), 1);
        b.is("b alone goes on", b.x.run(500), 50);
        b.is("IDLE still", b.x.partition(0, 0), 1);
        b.isState("no wait ends, nothing is late", 0, 1, 0, 140, 9, -1, -1, 3);
        b.is("no errors", b.x.about(1), 0);
        b.is("channels are not the partition's", b.x.channel(0, 1), 1);
        b.is("what finds them full is lost", b.x.channel(0, 4), 1);
    }

    // PROCESSES: "To begin a partition WARM: nobody waits; locks 0; semaphores have their first counts, events are down,
    // buffers and boards empty; all processes are DORMANT, then those that are neither handler nor stopped BEGIN, in order, now
    // + their delay (now without one; memory and channels stay)."
    private static void warm(Bench b) {
        b.fresh();
        b.load("partition a { memory 1024; process p { entry 0; priority 5; } process w { entry 512; priority 9; }"
                + " process s { entry 4; priority 3; stopped; } process d { entry 8; priority 3; delay 100; } " + H
                + "semaphore s0 0 : 1; semaphore s1 2 : 100; event e; buffer u 1; board o; port r out queuing; port q in queuing; }"
                + " channel queuing 1 { a.r > a.q } frame { a 10; }");
        b.program(0, 512, Bench.code(Bench.ask(18, 0, 5, -1), Bench.ask(18, 0, 6, -1)));
        b.program(0, 0, Bench.code(Bench.ask(9, 1), Bench.ask(10, 0), Bench.ask(13, 0, 8, 0), Bench.ask(15, 0, 9), Bench.ask(21),
                Bench.ask(3, 2), Bench.store(2, 17, 0, 1020), Bench.ask(23, 0)));
        b.x.begin();
        b.x.run(45);
        int[] ahead = {0, 1, 1, 1, 3};
        int[] behind = {0, 0, 0, 0, 2};
        isWarm(b, "ahead of it", 1, 1, ahead);
        b.is("s has begun", b.x.state(0, 2, 0), 1);
        b.is("the other waits with a word", b.x.state(0, 1, 0), 2);
        b.x.run(1);
        isWarm(b, "behind it", 0, 0, behind);
        b.is("memory stays", b.x.peek(0, 1020), 3);
        b.is("channels stay", b.x.channel(0, 1), 1);
        b.is("channels stay", b.x.wordAt(0, 0), 5);
        b.isState("begins now", 0, 0, 1, 0, 5, -1, -1, 36, 45, 0, 0);
        b.isState("begins now", 0, 1, 1, 512, 9, -1, -1, 10, 45, 0, 0);
        b.isState("is stopped", 0, 2, 0, 4, 3, -1, -1, 0, 39, 0, 0);
        b.isState("begins later", 0, 3, 2, 8, 3, -1, 145, 0, 145, 0, 0);
        b.isState("the handler", 0, 4, 0, 0, 0, -1, -1, 0, 0, 1, 0);
        b.is("how often", b.x.partition(0, 8), 2);
        b.is("how", b.x.partition(0, 11), 1);
    }

    private static void isWarm(Bench b, String what, int locks, int waiting, int[] things) {
        b.is(what + ", locks", b.x.partition(0, 9), locks);
        b.is(what + ", waiting", b.x.waiting(0, 4, 0), waiting);
        for (int sort = 0; sort < 4; sort++) {
            b.is(what + ", sort " + sort, b.x.thing(0, sort, 0), things[sort]);
        }
        b.is(what + ", the other semaphore", b.x.thing(0, 0, 1), things[4]);
        b.is(what + ", word of the buffer", b.x.wordOf(0, 2, 0, 0), 8 * things[2]);
        b.is(what + ", word of the board", b.x.wordOf(0, 3, 0, 0), 9 * things[3]);
    }

    // PROCESSES: "then those that are neither handler nor stopped BEGIN" There may be none.
    private static void warmWithNobody(Bench b) {
        b.alone("process p { entry 0; priority 5; stopped; } process h { entry 0; priority 5; handler; stopped; }");
        b.x.begin();
        b.is("nobody is READY", b.x.partition(0, 10), -1);
        b.is("nothing is done", b.x.run(10), 0);
        b.is("NORMAL", b.x.partition(0, 0), 0);
        b.isState("the handler does not begin", 0, 1, 0, 0, 5, -1, -1, 0, 0, 1, 0);
    }

    // PROCESSES: "BEGIN, in order, now + their delay"
    private static void warmInOrder(Bench b) {
        b.alone("process k { entry 256; priority 5; } process l { entry 512; priority 5; } process p { entry 0; priority 9; }");
        b.program(0, 0, Bench.code(Bench.set(5, 1), Bench.set(17, 7), Bench.CALL, Bench.ask(0)));
        b.program(0, 256, Bench.code(Bench.set(17, 7), Bench.CALL, Bench.set(17, 23), Bench.CALL));
        b.program(0, 512, Bench.code(Bench.set(5, 1), Bench.STAY));
        b.x.begin();
        b.x.run(8);
        b.is("k is the first of both", b.x.partition(0, 10), 0);
        b.x.run(2);
        b.is("l, as k stands behind it", b.x.partition(0, 10), 1);
        b.alone("process k { entry 256; priority 5; } process l { entry 512; priority 5; } ");
        b.program(0, 256, Bench.code(Bench.set(17, 7), Bench.CALL, Bench.STAY));
        b.program(0, 512, Bench.code(Bench.set(17, 23), Bench.CALL));
        b.x.begin();
        b.x.run(3);
        b.is("l is ahead", b.x.partition(0, 10), 1);
        b.x.run(1);
        b.is("began WARM", b.x.partition(0, 8), 2);
        b.is("k is the first again", b.x.partition(0, 10), 0);
    }

    // PROCESSES: "COLD: its memory is the image, too."
    private static void cold(Bench b) {
        for (int a = 0; a < 2; a++) {
            b.alone(P + "semaphore s 3 : 9;");
            b.program(0, 0, Bench.code(Bench.set(5, -1), Bench.store(2, 5, 0, 0), Bench.store(2, 5, 0, 1020), Bench.ask(9, 0),
                    Bench.ask(23, a)));
            b.x.image(0, 1020, 77);
            b.x.begin();
            b.x.run(12);
            b.is("changed", b.x.peek(0, 0), -1);
            b.is("changed", b.x.peek(0, 1020), -1);
            b.is("counted", b.x.thing(0, 0, 0), 4);
            b.x.run(1);
            b.is("the first word", b.x.peek(0, 0), a == 1 ? Bench.set(5, -1) : -1);
            b.is("the last word", b.x.peek(0, 1020), a == 1 ? 77 : -1);
            b.is("its first count", b.x.thing(0, 0, 0), 3);
            b.is("how", b.x.partition(0, 11), 1 + a);
        }
    }

    // PROCESSES: "IDLE: all are DORMANT (things stay as they are)."
    private static void idle(Bench b) {
        b.alone("process p { entry 0; priority 5; deadline 90; } process w { entry 512; priority 9; } process d { entry 4;"
                + " priority 3; delay 100; } semaphore s 2 : 2; event e; buffer u 2; board o;");
        b.program(0, 512, Bench.code(Bench.ask(26, -1)));
        b.program(0, 0, Bench.code(Bench.ask(8, 0, 0), Bench.ask(10, 0), Bench.ask(13, 0, 8, 0), Bench.ask(15, 0, 9), Bench.ask(21),
                Bench.ask(23, 2)));
        b.x.begin();
        b.x.run(35);
        b.is("IDLE", b.x.partition(0, 0), 1);
        for (int i = 0; i < 3; i++) {
            b.is("DORMANT", b.x.state(0, i, 0), 0);
            b.is("without DUE", b.x.state(0, i, 3), -1);
            b.is("until no time", b.x.state(0, i, 4), -1);
        }
        for (int sort = 0; sort < 4; sort++) {
            b.is("things stay", b.x.thing(0, sort, 0), 1);
        }
        b.is("words stay", b.x.wordOf(0, 2, 0, 0), 8);
        b.is("words stay", b.x.wordOf(0, 3, 0, 0), 9);
        b.is("nobody is READY, so nobody has it locked", b.x.partition(0, 9), 0);
        b.is("it began once", b.x.partition(0, 8), 1);
        b.is("by begin()", b.x.partition(0, 11), 0);
    }
}
