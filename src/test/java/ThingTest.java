/** Promises 14, 15 and 17: thing, waiting, wordOf; the calls 8 to 17 and 33. */
public final class ThingTest {
    private static final String P = "process p { entry 0; priority 5; } ";

    public static void main(String[] args) {
        Bench b = new Bench();
        none(b);
        noSuch(b);
        times(b);
        semaphores(b);
        turns(b);
        firstToWait(b);
        timeIsOver(b);
        events(b);
        buffers(b);
        bufferTurns(b);
        boards(b);
        looks(b);
        b.finish();
    }

    private static void none(Bench b) {
        b.is("thing without", b.x.thing(0, 0, 0), -1);
        b.is("waiting without", b.x.waiting(0, 0, 0), -1);
        b.is("word without", b.x.wordOf(0, 2, 0, 0), 0);
        b.alone("semaphore s 3 : 5; event e; buffer u 2; board o; port i in sampling; port j out queuing;");
        int[] values = {3, 0, 0, 0, -1};
        for (int sort = 0; sort < 5; sort++) {
            b.is("thing " + sort, b.x.thing(0, sort, 0), values[sort]);
            b.is("waiting " + sort, b.x.waiting(0, sort, 0), 0);
            int k = sort == 4 ? 2 : 1;
            b.is("no more of " + sort, b.x.thing(0, sort, k), -1);
            b.is("no more waiting " + sort, b.x.waiting(0, sort, k), -1);
            b.is("none below", b.x.thing(0, sort, -1), -1);
            b.is("none of no partition", b.x.thing(1, sort, 0), -1);
            b.is("none of no partition", b.x.waiting(-1, sort, 0), -1);
            b.is("no word", b.x.wordOf(0, sort, 0, 0), 0);
        }
        b.is("no sort", b.x.thing(0, 5, 0), -1);
        b.is("no sort", b.x.thing(0, -1, 0), -1);
        b.is("no sort", b.x.waiting(0, 5, 0), -1);
        b.is("no sort", b.x.wordOf(0, -1, 0, 0), 0);
        b.is("no such", b.x.wordOf(0, 2, 1, 0), 0);
    }

    private static void noSuch(Bench b) {
        int[] calls = {8, 9, 10, 11, 12, 13, 14, 15, 16, 17};
        for (int call : calls) {
            b.alone(P + "semaphore s 0 : 1; event e; buffer u 1; board o;");
            b.answers("no such for " + call, 1, call, 1, 0, 0);
            b.alone(P + "semaphore s 0 : 1; event e; buffer u 1; board o;");
            b.answers("below 0 for " + call, 1, call, -1, 0, 0);
            b.alone(P);
            b.answers("none at all for " + call, 1, call, 0, 0, 0);
        }
    }

    private static void times(Bench b) {
        int[] calls = {8, 12, 14, 17};
        for (int call : calls) {
            for (int ready = 0; ready < 2; ready++) {
                String things = P + "semaphore s " + ready + " : 1; event e; buffer u 1; board o;";
                b.alone(things);
                b.program(0, 0, Bench.code(ready == 1 ? Bench.ask(10, 0) : Bench.ask(11, 0),
                        ready == 1 ? Bench.ask(13, 0, 6, 0) : Bench.ask(16, 0),
                        ready == 1 ? Bench.ask(15, 0, 6) : Bench.ask(16, 0), Bench.ask(call, 0, -2), Bench.copy(20, 10),
                        Bench.setLong(11, 100001), Bench.set(10, 0), Bench.CALL, Bench.copy(21, 10),
                        Bench.ask(call, 0, 0), Bench.STAY));
                b.x.begin();
                b.x.run(15 + 6 + 5 + 5);
                b.isRegister("-2 for " + call, 0, 20, 1);
                b.isRegister("100001 for " + call, 0, 21, 1);
                b.isRegister("not to wait for " + call, 0, 10, ready == 1 ? 0 : 2);
            }
            b.alone(P + "semaphore s 0 : 1; event e; buffer u 1; board o;");
            b.program(0, 0, Bench.code(Bench.setLong(11, 100000), Bench.set(17, call), Bench.CALL));
            b.x.begin();
            b.x.run(4);
            b.isState("the longest for " + call, 0, 0, 2, 16, 5, -1, 100003);
            b.alone(P + "semaphore s 0 : 1; event e; buffer u 1; board o;");
            b.program(0, 0, Bench.code(Bench.ask(21), Bench.ask(call, 0, 7), Bench.STAY));
            b.x.begin();
            b.x.run(10);
            b.isRegister("LOCKED for " + call, 0, 10, 3);
        }
        b.alone(P + "buffer u 1;");
        b.answers("13 with a time that is none", 1, 13, 0, 5, -2);
        b.is("nothing came", b.x.thing(0, 2, 0), 0);
    }

    private static void semaphores(Bench b) {
        b.alone(P + "semaphore r 0 : 9; semaphore s 1 : 2;");
        b.program(0, 0, Bench.code(Bench.ask(9, 1), Bench.copy(20, 10), Bench.ask(9, 1), Bench.copy(21, 10),
                Bench.ask(8, 1, 0), Bench.copy(22, 10), Bench.ask(8, 1, 5), Bench.ask(8, 1, 0), Bench.copy(23, 10),
                Bench.STAY));
        b.x.begin();
        b.is("first", b.x.thing(0, 0, 1), 1);
        b.x.run(12);
        b.isRegister("given", 0, 20, 0);
        b.isRegister("the most", 0, 21, 2);
        b.is("count", b.x.thing(0, 0, 1), 2);
        b.x.run(6);
        b.isRegister("taken", 0, 22, 0);
        b.is("count", b.x.thing(0, 0, 1), 1);
        b.x.run(11);
        b.isRegister("none there", 0, 23, 2);
        b.is("count", b.x.thing(0, 0, 1), 0);
        b.is("the other one stays", b.x.thing(0, 0, 0), 0);
    }

    /** Three wait, the lowest priority first; g gives. Who comes first, with fifo and without? */
    private static void turns(Bench b) {
        for (int fifo = 0; fifo < 2; fifo++) {
            b.alone("process l { entry 0; priority 2; } process m { entry 256; priority 7; delay 10; }"
                    + " process n { entry 256; priority 7; delay 20; } process g { entry 512; priority 1; delay 30; }"
                    + " semaphore s 0 : 9 " + (fifo == 1 ? "fifo;" : ";"));
            b.program(0, 0, Bench.code(Bench.ask(8, 0, -1), Bench.copy(20, 10), Bench.ask(0)));
            b.program(0, 256, Bench.code(Bench.ask(8, 0, -1), Bench.copy(20, 10), Bench.ask(0)));
            b.program(0, 512, Bench.code(Bench.set(17, 9), Bench.CALL, Bench.jump(0, -4)));
            b.x.begin();
            b.x.run(30);
            b.is("three wait", b.x.waiting(0, 0, 0), 3);
            int[] order = fifo == 1 ? new int[] {0, 1, 2} : new int[] {1, 2, 0};
            b.x.run(2);
            for (int n = 0; n < 3; n++) {
                b.is("READY " + n, b.x.state(0, order[n], 0), 1);
                b.isRegister("the answer", order[n], 10, 0);
                b.is("count stays", b.x.thing(0, 0, 0), 0);
                b.is("fewer wait", b.x.waiting(0, 0, 0), 2 - n);
                b.x.run(8);
            }
            b.is("counts again", b.x.thing(0, 0, 0), 1);
        }
    }

    /** Who waits first is not who was READY first: that one counts, with fifo or at one priority. */
    private static void firstToWait(Bench b) {
        for (int fifo = 0; fifo < 2; fifo++) {
            b.alone("process l { entry 256; priority 2; } process m { entry 0; priority 7; delay 2; }"
                    + " process g { entry 512; priority 1; delay 30; } semaphore s 0 : 9 " + (fifo == 1 ? "fifo;" : ";"));
            b.program(0, 0, Bench.code(Bench.ask(8, 0, -1), Bench.STAY));
            b.program(0, 256, Bench.code(Bench.ask(5, 0, fifo == 1 ? 9 : 7), Bench.ask(8, 0, -1), Bench.STAY));
            b.program(0, 512, Bench.code(Bench.set(17, 9), Bench.CALL, Bench.STAY));
            b.x.begin();
            b.x.run(30);
            b.is("both wait", b.x.waiting(0, 0, 0), 2);
            b.is("with this priority", b.x.state(0, 0, 2), fifo == 1 ? 9 : 7);
            b.x.run(2);
            b.is("who waited first", b.x.state(0, 1, 0), 1);
            b.is("the other waits", b.x.state(0, 0, 0), 2);
        }
    }

    private static void timeIsOver(Bench b) {
        b.alone(P + "semaphore s 0 : 1;");
        b.program(0, 0, Bench.code(Bench.ask(8, 0, 7), Bench.STAY));
        b.x.begin();
        b.x.run(11);
        b.isState("waits", 0, 0, 2, 20, 5, -1, 11, 5);
        b.isRegister("x10 stays", 0, 10, 0);
        b.x.run(1);
        b.isState("READY", 0, 0, 1, 20, 5, -1, -1, 6);
        b.isRegister("the time is over", 0, 10, 4);
        b.is("waits no more", b.x.waiting(0, 0, 0), 0);
    }

    private static void events(Bench b) {
        b.alone("process l { entry 256; priority 7; } process m { entry 256; priority 9; } process g { entry 0; priority 9; delay 10; }"
                + " event d; event e;");
        b.program(0, 256, Bench.code(Bench.ask(12, 1, -1), Bench.copy(20, 10), Bench.ask(12, 1, -1), Bench.copy(21, 10),
                Bench.STAY));
        b.program(0, 0, Bench.code(Bench.ask(10, 1), Bench.ask(5, 0, 9), Bench.ask(2, 100), Bench.ask(11, 1), Bench.STAY));
        b.x.begin();
        b.x.run(14);
        b.is("both wait", b.x.waiting(0, 1, 1), 2);
        b.is("down", b.x.thing(0, 1, 1), 0);
        b.x.run(1);
        b.is("up", b.x.thing(0, 1, 1), 1);
        b.is("the other is not", b.x.thing(0, 1, 0), 0);
        b.is("none waits", b.x.waiting(0, 1, 1), 0);
        b.x.run(10);
        b.is("by their numbers", b.x.partition(0, 10), 0);
        b.x.run(1);
        b.isRegister("the answer", 0, 20, 0);
        b.x.run(6);
        b.isRegister("up: at once", 0, 21, 0);
        b.x.run(99);
        b.is("still up", b.x.thing(0, 1, 1), 1);
        b.x.run(400);
        b.is("up stays, as g comes behind", b.x.thing(0, 1, 1), 1);

        b.alone(P + "event e;");
        b.program(0, 0, Bench.code(Bench.ask(10, 0), Bench.ask(10, 0), Bench.copy(20, 10), Bench.ask(11, 0),
                Bench.ask(11, 0), Bench.copy(21, 10), Bench.ask(12, 0, 0), Bench.STAY));
        b.x.begin();
        b.x.run(11);
        b.is("up", b.x.thing(0, 1, 0), 1);
        b.isRegister("again", 0, 20, 0);
        b.x.run(11);
        b.is("down", b.x.thing(0, 1, 0), 0);
        b.isRegister("again", 0, 21, 0);
        b.x.run(5);
        b.isRegister("not to wait", 0, 10, 2);
    }

    private static void buffers(Bench b) {
        b.alone(P + "buffer u 3;");
        b.program(0, 0, Bench.code(Bench.ask(13, 0, 11, 0), Bench.ask(13, 0, 12, 0), Bench.ask(14, 0, 0), Bench.copy(20, 11),
                Bench.ask(13, 0, 13, 0), Bench.ask(13, 0, -14, 0), Bench.copy(21, 10), Bench.ask(13, 0, 15, 0),
                Bench.copy(22, 10), Bench.ask(14, 0, 0), Bench.ask(14, 0, 0), Bench.ask(14, 0, 0), Bench.copy(23, 11),
                Bench.ask(14, 0, 0), Bench.STAY));
        b.x.begin();
        b.x.run(10);
        b.is("two", b.x.thing(0, 2, 0), 2);
        b.is("first", b.x.wordOf(0, 2, 0, 0), 11);
        b.is("second", b.x.wordOf(0, 2, 0, 1), 12);
        b.is("none", b.x.wordOf(0, 2, 0, 2), 0);
        b.is("none", b.x.wordOf(0, 2, 0, -1), 0);
        b.x.run(17 + 6);
        b.isRegister("the first", 0, 20, 11);
        b.isRegister("put", 0, 21, 0);
        b.isRegister("full", 0, 22, 2);
        b.is("three", b.x.thing(0, 2, 0), 3);
        int[] wants = {12, 13, -14, 0};
        for (int i = 0; i < 4; i++) {
            b.is("word " + i, b.x.wordOf(0, 2, 0, i), wants[i]);
        }
        b.is("as a board", b.x.wordOf(0, 3, 0, 0), 0);
        b.x.run(16);
        b.isRegister("the last", 0, 23, -14);
        b.is("empty", b.x.thing(0, 2, 0), 0);
        b.x.run(5);
        b.isRegister("nothing there", 0, 10, 2);
    }

    private static void bufferTurns(Bench b) {
        for (int fifo = 0; fifo < 2; fifo++) {
            String kind = "buffer u 1 " + (fifo == 1 ? "fifo;" : ";");
            // two wait with words, the lower priority first
            b.alone("process l { entry 0; priority 2; } process m { entry 256; priority 7; delay 15; }"
                    + " process g { entry 512; priority 1; delay 25; } " + kind);
            b.program(0, 0, Bench.code(Bench.ask(13, 0, 1, 0), Bench.ask(13, 0, 2, -1), Bench.ask(0)));
            b.program(0, 256, Bench.code(Bench.ask(13, 0, 3, 60), Bench.ask(0)));
            b.program(0, 512, Bench.code(Bench.set(17, 14), Bench.set(10, 0), Bench.CALL, Bench.STAY));
            b.x.begin();
            b.x.run(25);
            b.is("both wait", b.x.waiting(0, 2, 0), 2);
            b.is("until", b.x.state(0, 1, 4), 79);
            b.x.run(3);
            b.isRegister("the word that was there", 2, 11, 1);
            b.is("whose word came", b.x.wordOf(0, 2, 0, 0), fifo == 1 ? 2 : 3);
            b.is("still full", b.x.thing(0, 2, 0), 1);
            b.is("one waits", b.x.waiting(0, 2, 0), 1);
            b.isRegister("the answer", fifo == 1 ? 0 : 1, 10, 0);
            b.is("READY", b.x.state(0, fifo == 1 ? 0 : 1, 0), 1);
            b.is("no time any more", b.x.state(0, fifo == 1 ? 0 : 1, 4), -1);

            // two wait to take
            b.alone("process l { entry 0; priority 2; } process m { entry 256; priority 7; delay 15; }"
                    + " process g { entry 512; priority 1; delay 25; } " + kind);
            b.program(0, 0, Bench.code(Bench.ask(14, 0, -1), Bench.STAY));
            b.program(0, 256, Bench.code(Bench.ask(14, 0, -1), Bench.STAY));
            b.program(0, 512, Bench.code(Bench.set(17, 13), Bench.set(11, 55), Bench.CALL, Bench.STAY));
            b.x.begin();
            b.x.run(25);
            b.is("both wait", b.x.waiting(0, 2, 0), 2);
            b.x.run(3);
            int first = fifo == 1 ? 0 : 1;
            b.isRegister("has it", first, 11, 55);
            b.isRegister("the answer", first, 10, 0);
            b.isRegister("the other has none", 1 - first, 11, -1);
            b.is("nothing is kept", b.x.thing(0, 2, 0), 0);
            b.is("one waits", b.x.waiting(0, 2, 0), 1);
        }
    }

    private static void boards(Bench b) {
        b.alone("process l { entry 256; priority 7; } process m { entry 256; priority 9; } process g { entry 0; priority 9; delay 10; }"
                + " board n; board o;");
        b.program(0, 256, Bench.code(Bench.ask(17, 1, -1), Bench.STAY));
        b.program(0, 0, Bench.code(Bench.ask(15, 1, 77), Bench.ask(15, 1, -78), Bench.ask(17, 1, 0), Bench.copy(20, 11),
                Bench.copy(21, 10), Bench.ask(16, 1), Bench.ask(17, 1, 0), Bench.STAY));
        b.x.begin();
        b.x.run(14);
        b.is("both wait", b.x.waiting(0, 3, 1), 2);
        b.is("shows nothing", b.x.thing(0, 3, 1), 0);
        b.is("no word", b.x.wordOf(0, 3, 1, 0), 0);
        b.x.run(1);
        b.is("shows", b.x.thing(0, 3, 1), 1);
        b.is("word", b.x.wordOf(0, 3, 1, 0), 77);
        b.is("just one", b.x.wordOf(0, 3, 1, 1), 0);
        b.is("not the other board", b.x.thing(0, 3, 0), 0);
        for (int i = 0; i < 2; i++) {
            b.isRegister("has it", i, 11, 77);
            b.isRegister("the answer", i, 10, 0);
            b.is("READY", b.x.state(0, i, 0), 1);
        }
        b.x.run(5);
        b.is("the later word", b.x.wordOf(0, 3, 1, 0), -78);
        b.x.run(7);
        b.isRegister("read", 2, 20, -78);
        b.isRegister("the answer", 2, 21, 0);
        b.x.run(5);
        b.is("shows nothing", b.x.thing(0, 3, 1), 0);
        b.is("no word", b.x.wordOf(0, 3, 1, 0), 0);
        b.x.run(5);
        b.isRegister("nothing there", 2, 10, 2);
    }

    private static void looks(Bench b) {
        String things = P + "process w { entry 256; priority 9; } semaphore s 4 : 9; event e; buffer u 2; board o;"
                + " port i in queuing; port j out sampling; port k in sampling;";
        String config = "partition a { memory 1024; " + things + " } channel sampling 3 { a.j > a.k } frame { a 9; }";
        int[][] asks = {{0, 0, 4, 0}, {1, 0, 0, 1}, {2, 0, 1, 0}, {3, 0, 0, 0}, {4, 0, 0, 0}, {4, 1, 1, 0}, {4, 2, 1, 0}};
        for (int[] ask : asks) {
            b.fresh();
            b.load(config);
            b.program(0, 256, Bench.code(Bench.ask(13, 0, 1, 0), Bench.ask(18, 1, 5), Bench.ask(12, 0, -1)));
            b.program(0, 0, Bench.code(Bench.ask(33, ask[0], ask[1]), Bench.STAY));
            b.x.begin();
            b.x.run(20);
            b.isRegister("33", 0, 10, 0);
            b.isRegister("33 of " + ask[0] + " " + ask[1], 0, 11, ask[2]);
            b.isRegister("33 of " + ask[0] + " " + ask[1], 0, 12, ask[3]);
        }
        int[][] none = {{0, 1}, {1, 1}, {2, 1}, {3, 1}, {4, 3}, {5, 0}, {-1, 0}, {0, -1}};
        for (int[] ask : none) {
            b.alone(things.replace("process w { entry 256; priority 9; } ", ""));
            b.answers("33 of " + ask[0] + " " + ask[1], 1, 33, ask[0], ask[1], 0);
        }
    }
}
