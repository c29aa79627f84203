/** Promises 13, 16 and 22: partition, region, about; windows, locks, beginning anew, and the calls 21 to 23, 32, 35, 36. */
public final class PartitionTest {
    private static final String P = "process p { entry 0; priority 5; } ";
    private static final String Q = "process q { entry 256; priority 9; } ";

    public static void main(String[] args) {
        Bench b = new Bench();
        none(b);
        windows(b);
        locks(b);
        lockedByOne(b);
        unlockedByEnd(b);
        warm(b);
        coldAndIdle(b);
        tellsPartition(b);
        tellsWindow(b);
        findsNames(b);
        b.finish();
    }

    private static void none(Bench b) {
        for (int what = -1; what < 15; what++) {
            b.is("partition without " + what, b.x.partition(0, what), -1);
            b.is("region without " + what, b.x.region(0, 0, what), -1);
        }
        int[] wants = {-1, 0, 0, 0, -1, 0, 0, 0, 0, 0, 0, -1};
        for (int what = -1; what < 11; what++) {
            b.is("about without " + what, b.x.about(what), wants[what + 1]);
        }
        b.alone(P);
        b.is("no partition", b.x.partition(1, 0), -1);
        b.is("no partition", b.x.partition(-1, 0), -1);
        b.is("no what", b.x.partition(0, 14), -1);
        b.is("no what", b.x.partition(0, -1), -1);
        b.is("no what", b.x.region(0, 0, -1), -1);
        b.is("about 10", b.x.about(10), -1);
        b.is("about -1", b.x.about(-1), -1);
    }

    private static void windows(Bench b) {
        b.fresh();
        b.load("partition a { memory 256; " + P + "} partition b { memory 256; " + P + "} partition c { memory 256; }"
                + " frame { a 3; b 2; c 4; a 1; }");
        b.program(0, 0, Bench.STAY);
        b.program(1, 0, Bench.STAY);
        b.is("ahead of begin()", b.x.about(3), -1);
        b.x.begin();
        int[] who = {0, 0, 0, 1, 1, 2, 2, 2, 2, 0};
        for (int t = 0; t < 25; t++) {
            b.is("window at " + t, b.x.about(3), who[t % 10]);
            b.is("done at " + t, b.x.run(1), who[t % 10] == 2 ? 0 : 1);
        }
        b.is("of a", b.x.partition(0, 13), 11);
        b.is("of b", b.x.partition(1, 13), 6);
        b.is("in all", b.x.about(2), 17);
        b.is("time", b.x.about(0), 25);
        b.is("partitions", b.x.about(5), 3);
        b.is("windows", b.x.about(7), 4);
    }

    private static void locks(Bench b) {
        b.alone(P);
        b.program(0, 0, Bench.code(Bench.set(17, 22), Bench.CALL, Bench.copy(20, 10), Bench.set(17, 21), Bench.CALL,
                Bench.jump(0, -4)));
        b.x.begin();
        b.x.run(3);
        b.isRegister("unlock at 0", 0, 20, 2);
        b.x.run(2);
        b.is("one", b.x.partition(0, 9), 1);
        b.isRegister("the answer", 0, 10, 0);
        b.x.run(14);
        b.is("eight", b.x.partition(0, 9), 8);
        b.isRegister("the answer", 0, 10, 0);
        b.x.run(2);
        b.is("still eight", b.x.partition(0, 9), 8);
        b.isRegister("no more", 0, 10, 2);

        b.alone(P);
        b.program(0, 0, Bench.code(Bench.ask(21), Bench.ask(21), Bench.ask(22), Bench.ask(22), Bench.ask(22), Bench.STAY));
        b.x.begin();
        b.x.run(15);
        b.is("one left", b.x.partition(0, 9), 1);
        b.x.run(5);
        b.is("none left", b.x.partition(0, 9), 0);
        b.isRegister("the answer", 0, 10, 0);
        b.x.run(5);
        b.isRegister("no more", 0, 10, 2);
    }

    private static void lockedByOne(Bench b) {
        // while p has locked it, q of the greater priority waits for its turn; held is none who locked
        b.alone(P + "process q { entry 256; priority 9; delay 8; } process h { entry 768; priority 0; handler; }"
                + " semaphore s 0 : 1; errors { late : handle; raised : handle; }"
                + " process d { entry 512; priority 0; deadline 20; delay 3; }");
        b.program(0, 0, Bench.code(Bench.ask(21), Bench.ask(8, 0, -1), Bench.copy(20, 10), Bench.ask(8, 0, 0),
                Bench.copy(21, 10), Bench.STAY));
        b.program(0, 768, Bench.code(Bench.ask(27, 0), Bench.copy(20, 10), Bench.ask(21), Bench.copy(21, 10),
                Bench.ask(22), Bench.copy(22, 10), Bench.ask(2, 3), Bench.copy(23, 10), Bench.ask(8, 0, 5),
                Bench.copy(24, 10), Bench.ask(1), Bench.copy(25, 10), Bench.ask(4, 0), Bench.copy(26, 10), Bench.ask(0)));
        b.x.begin();
        b.x.run(17);
        b.is("who locked it", b.x.partition(0, 10), 0);
        b.is("q is READY", b.x.state(0, 1, 0), 1);
        b.is("q does nothing", b.x.state(0, 1, 5), 0);
        b.isRegister("not so", 0, 20, 3);
        b.isRegister("not now", 0, 21, 2);
        b.x.run(8);
        b.is("the handler is ahead of it", b.x.partition(0, 10), 2);
        b.x.run(41);
        b.isRegister("27 of who locked it", 2, 20, 3);
        b.isRegister("21 by the handler", 2, 21, 3);
        b.isRegister("22 by the handler", 2, 22, 3);
        b.isRegister("2 by the handler", 2, 23, 3);
        b.isRegister("8 by the handler", 2, 24, 3);
        b.isRegister("1 by the handler", 2, 25, 3);
        b.isRegister("4 of who locked it", 2, 26, 0);
        b.is("unlocked", b.x.partition(0, 9), 0);
        b.is("DORMANT", b.x.state(0, 0, 0), 0);
    }

    private static void unlockedByEnd(Bench b) {
        int[][] ends = {Bench.ask(0), Bench.ask(4, 0), Bench.code(0)};
        for (int[] end : ends) {
            b.alone(P + Q.replace("priority 9", "priority 2") + " errors { illegal : stop; }");
            b.program(0, 0, Bench.code(Bench.ask(21), Bench.ask(21), end));
            b.program(0, 256, Bench.STAY);
            b.x.begin();
            b.x.run(10);
            b.is("locked", b.x.partition(0, 9), 2);
            b.x.run(end.length);
            b.is("unlocked", b.x.partition(0, 9), 0);
            b.is("the other one", b.x.partition(0, 10), 1);
        }
        // who is FAULTED unlocks, who begins again goes on with its locks
        b.alone(P + "process h { entry 256; priority 2; handler; } errors { illegal : handle; memory : again; }");
        b.program(0, 0, Bench.code(Bench.ask(21), 0));
        b.x.begin();
        b.x.run(5);
        b.is("locked", b.x.partition(0, 9), 1);
        b.x.run(1);
        b.is("FAULTED", b.x.state(0, 0, 0), 3);
        b.is("unlocked", b.x.partition(0, 9), 0);
        b.alone(P + Q.replace("priority 9", "priority 5") + "errors { memory : again; }");
        b.program(0, 0, Bench.code(Bench.ask(21), Bench.fetch(2, 5, 0, -4)));
        b.x.begin();
        b.x.run(6);
        b.isState("BEGINS", 0, 0, 1, 0, 5, -1, -1, 6, 5);
        b.is("still locked", b.x.partition(0, 9), 1);
        b.is("by it", b.x.partition(0, 10), 0);
    }

    private static void warm(Bench b) {
        b.alone("semaphore s 1 : 3; event e; buffer u 2; board o; process h { entry 768; priority 1; handler; }"
                + " process k { entry 0; priority 1; deadline 90; delay 5; } process w { entry 256; priority 9; }"
                + " process z { entry 4; priority 1; stopped; }");
        b.program(0, 0, Bench.code(Bench.ask(9, 0), Bench.ask(10, 0), Bench.ask(13, 0, 5, 0), Bench.ask(15, 0, 6),
                Bench.store(2, 17, 0, 1000), Bench.ask(5, 1, 3), Bench.ask(21), Bench.ask(3, 3), Bench.ask(23, 0)));
        b.program(0, 256, Bench.code(Bench.ask(8, 0, -1), Bench.ask(8, 0, -1), Bench.set(5, 5), Bench.ask(12, 0, -1),
                Bench.ask(8, 0, -1), Bench.STAY));
        b.x.begin();
        // w: takes 1, waits at the second for k's; both signals come, then it waits for the semaphore again
        b.x.run(57);
        b.is("word kept", b.x.thing(0, 2, 0), 1);
        b.is("shows", b.x.thing(0, 3, 0), 1);
        b.is("up", b.x.thing(0, 1, 0), 1);
        b.is("locked", b.x.partition(0, 9), 1);
        b.is("counts", b.x.thing(0, 0, 0), 0);
        b.is("waits", b.x.waiting(0, 0, 0), 1);
        b.is("z began", b.x.state(0, 3, 0), 1);
        b.is("the tick", b.x.about(0), 57);
        b.x.run(5);
        b.is("how often", b.x.partition(0, 8), 2);
        b.is("how", b.x.partition(0, 11), 1);
        b.is("locks", b.x.partition(0, 9), 0);
        b.is("first count", b.x.thing(0, 0, 0), 1);
        b.is("down", b.x.thing(0, 1, 0), 0);
        b.is("empty", b.x.thing(0, 2, 0), 0);
        b.is("shows nothing", b.x.thing(0, 3, 0), 0);
        b.is("nobody waits", b.x.waiting(0, 0, 0), 0);
        b.is("memory stays", b.x.peek(0, 1000), 15);
        int now = b.x.about(0) - 1;
        b.is("now", now, 61);
        b.isState("delayed again", 0, 1, 2, 0, 3, now + 95, now + 5, 41, now + 5);
        b.isState("begins", 0, 2, 1, 256, 9, -1, -1, 21, now);
        b.isRegister("registers", 2, 5, 0);
        b.isState("stopped", 0, 3, 0, 4, 1, -1, -1);
        b.isState("handler", 0, 0, 0, 0, 1, -1, -1);
    }

    private static void coldAndIdle(Bench b) {
        b.alone(P);
        b.program(0, 0, Bench.code(Bench.set(5, 1), Bench.store(2, 5, 0, 0), Bench.store(2, 5, 0, 1000),
                Bench.ask(23, 1)));
        b.x.begin();
        b.x.run(7);
        b.is("changed", b.x.peek(0, 0), 1);
        b.x.run(1);
        b.is("the image again", b.x.peek(0, 0), Bench.set(5, 1));
        b.is("the image again", b.x.peek(0, 1000), 0);
        b.is("how", b.x.partition(0, 11), 2);
        b.is("how often", b.x.partition(0, 8), 2);
        b.isState("anew", 0, 0, 1, 0, 5, -1, -1, 8, 7);

        b.alone(P + "semaphore s 2 : 2; event e;");
        b.program(0, 0, Bench.code(Bench.ask(21), Bench.ask(10, 0), Bench.ask(8, 0, 0), Bench.ask(23, 2)));
        b.x.begin();
        b.x.run(20);
        b.is("IDLE", b.x.partition(0, 0), 1);
        b.is("locks", b.x.partition(0, 9), 0);
        b.is("things stay", b.x.thing(0, 0, 0), 1);
        b.is("things stay", b.x.thing(0, 1, 0), 1);
        b.is("DORMANT", b.x.state(0, 0, 0), 0);
        b.is("nobody", b.x.partition(0, 10), -1);
        b.is("how stays", b.x.partition(0, 11), 0);
        b.is("how often stays", b.x.partition(0, 8), 1);
        b.is("nothing happens", b.x.run(50), 0);
        b.is("time goes on", b.x.about(0), 70);

        b.alone(P);
        b.answers("23 with 3", 1, 23, 3, 0, 0);
        b.alone(P);
        b.answers("23 with -1", 1, 23, -1, 0, 0);
        b.is("goes on", b.x.state(0, 0, 1), 20);
    }

    private static void tellsPartition(Bench b) {
        b.fresh();
        b.load("partition z { memory 256; } partition a { memory 256; " + P + "} frame { a 50; }");
        b.program(1, 0, Bench.code(Bench.ask(21), Bench.ask(32), Bench.set(9, 1), Bench.ask(23, 0)));
        b.x.begin();
        b.x.run(10);
        b.is("answer", b.x.register(1, 0, 10), 0);
        b.is("number", b.x.register(1, 0, 11), 1);
        b.is("how", b.x.register(1, 0, 12), 0);
        b.is("locks", b.x.register(1, 0, 13), 1);
        b.x.run(16);
        b.is("how", b.x.register(1, 0, 12), 1);
    }

    private static void tellsWindow(Bench b) {
        b.fresh();
        b.load("partition a { memory 256; " + P + "} partition b { memory 256; " + P + "} partition c { memory 256; "
                + P + "} frame { a 3; a 4; b 5; c 6; a 7; }");
        for (int i = 0; i < 3; i++) {
            b.program(i, 0, Bench.code(Bench.set(17, 35), Bench.CALL, Bench.jump(0, -4)));
        }
        b.x.begin();
        // a calls at 1, 3, 5, then in its third window, then again from 25 on
        window(b, 2, 0, 2, 0);
        window(b, 2, 0, 4, 5 + 6);
        window(b, 2, 0, 2, 11);
        b.x.run(1);
        window(b, 2, 1, 4, 6 + 7 + 3 + 4);
        window(b, 2, 1, 2, 20);
        b.x.run(1);
        window(b, 2, 2, 5, 7 + 3 + 4 + 5);
        b.x.run(4);
        window(b, 1, 0, 7, 0);
        b.alone(P);
        b.answers("35", 0, 35, 9, 9, 9);
        b.isRegister("left", 0, 11, 10 - 4);
        b.isRegister("the same one again", 0, 12, 0);
        b.isRegister("ticks", 0, 13, 10);
    }

    private static void window(Bench b, int ticks, int partition, int left, int between) {
        b.x.run(ticks);
        String what = "at " + b.x.about(0);
        b.is(what + " left", b.x.register(partition, 0, 11), left);
        b.is(what + " between", b.x.register(partition, 0, 12), between);
        b.is(what + " ticks", b.x.register(partition, 0, 13), 25);
    }

    private static void findsNames(Bench b) {
        String things = "regions { 768 code; 256 table; } process p { entry 0; priority 5; } semaphore s 0 : 1;"
                + " event ab; event e1; buffer s2 1; board abcdefghijkl; port po in sampling; process zz { entry 0; priority 1; }";
        int[][] asks = {{5, 1000, 2, 0, 1}, {5, 1003, 1, 0, 0}, {0, 1004, 1, 0, 0}, {1, 1005, 2, 0, 1}, {1, 1007, 2, 0, 0},
            {2, 1007, 2, 2, -7}, {3, 1007, 12, 0, 0}, {3, 1007, 11, 2, -7}, {4, 1022, 2, 0, 0}, {4, 1023, 1, 2, -7},
            {4, 1023, 2, 1, -7}, {6, 1000, 2, 1, -7}, {-1, 1000, 2, 1, -7}, {5, 1000, 0, 1, -7}, {5, 1000, 13, 1, -7},
            {5, -1, 1, 1, -7}, {5, 1024, 1, 1, -7}, {5, 1002, 1, 2, -7}, {5, 1000, 1, 2, -7}, {1, 1004, 1, 2, -7},
            {5, 1000, 3, 2, -7}};
        String letters = "zz!pse1abcdefghijkl!!!po";
        for (int[] ask : asks) {
            b.alone(things);
            for (int i = 0; i < 24; i += 4) {
                b.x.image(0, 1000 + i, letters.charAt(i) | letters.charAt(i + 1) << 8 | letters.charAt(i + 2) << 16
                        | letters.charAt(i + 3) << 24);
            }
            b.program(0, 0, Bench.code(Bench.set(10, ask[0]), Bench.set(11, ask[1]), Bench.set(12, ask[2]),
                    Bench.set(17, 36), Bench.CALL, Bench.STAY));
            b.x.begin();
            b.x.run(5);
            String what = "36 of " + ask[0] + " at " + ask[1] + " with " + ask[2];
            b.isRegister(what, 0, 10, ask[3]);
            b.isRegister(what, 0, 11, ask[4] == -7 ? ask[1] : ask[4]);
        }
        b.alone("process pqrs { entry 4; priority 5; } event y; event pqrs1;");
        b.x.image(0, 0, 'p' | 'q' << 8 | 'r' << 16 | 's' << 24);
        b.program(0, 4, Bench.ask(36, 5, 0, 4));
        b.x.begin();
        b.x.run(5);
        b.isRegister("at place 0", 0, 10, 0);
        b.isRegister("its number", 0, 11, 0);
    }
}
