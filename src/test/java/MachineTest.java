import java.util.Random;

/** Promises 9 and 11: run, register; the machine's instructions one by one. */
public final class MachineTest {
    private static final int[] EDGES = {0, 1, -1, 2, 31, 32, 33, -32, 2047, -2048, Integer.MAX_VALUE,
        Integer.MIN_VALUE, 0x12345678, 0x80000001};

    public static void main(String[] args) {
        Bench b = new Bench();
        runs(b);
        reckoning(b);
        numbers(b);
        uppersAndJumps(b);
        branches(b);
        fetches(b);
        stores(b);
        illegals(b);
        places(b);
        regions(b);
        b.finish();
    }

    /** One process p with a program at 0. */
    private static void start(Bench b, int... words) {
        b.alone("process p { entry 0; priority 1; }");
        b.program(0, 0, words);
        b.x.begin();
    }

    private static void runs(Bench b) {
        b.refuses("without a configuration", IllegalStateException.class, () -> b.x.run(1));
        b.refuses("this first", IllegalStateException.class, () -> b.x.run(501));
        b.alone("process p { entry 0; priority 1; }");
        b.refuses("not begun", IllegalStateException.class, () -> b.x.run(0));
        b.x.image(0, 0, Bench.STAY);
        b.x.begin();
        b.refuses("-1", IllegalArgumentException.class, () -> b.x.run(-1));
        b.refuses("501", IllegalArgumentException.class, () -> b.x.run(501));
        b.refuses("the highest", IllegalArgumentException.class, () -> b.x.run(Integer.MAX_VALUE));
        b.is("none", b.x.run(0), 0);
        b.is("time stays", b.x.about(0), 0);
        b.is("500", b.x.run(500), 500);
        b.is("time", b.x.about(0), 500);
        b.is("one more", b.x.run(1), 1);
        b.is("in all", b.x.about(2), 501);
        b.is("of the process", b.x.state(0, 0, 5), 501);
        b.is("of the partition", b.x.partition(0, 13), 501);
    }

    private static int reckoned(int f3, boolean other, int r, int s) {
        switch (f3) {
            case 0: return other ? r - s : r + s;
            case 1: return r << s;
            case 2: return r < s ? 1 : 0;
            case 3: return (r & 0xffffffffL) < (s & 0xffffffffL) ? 1 : 0;
            case 4: return r ^ s;
            case 5: return other ? r >> s : r >>> s;
            case 6: return r | s;
            default: return r & s;
        }
    }

    private static void reckoning(Bench b) {
        for (int r : EDGES) {
            for (int s : EDGES) {
                start(b, Bench.code(Bench.setLong(5, r), Bench.setLong(6, s),
                        Bench.withRegister(0, 0, 20, 5, 6), Bench.withRegister(0, 1, 21, 5, 6),
                        Bench.withRegister(0, 2, 22, 5, 6), Bench.withRegister(0, 3, 23, 5, 6),
                        Bench.withRegister(0, 4, 24, 5, 6), Bench.withRegister(0, 5, 25, 5, 6),
                        Bench.withRegister(0, 6, 26, 5, 6), Bench.withRegister(0, 7, 27, 5, 6),
                        Bench.withRegister(32, 0, 28, 5, 6), Bench.withRegister(32, 5, 29, 5, 6),
                        Bench.withRegister(0, 0, 0, 5, 6), Bench.withRegister(0, 0, 5, 5, 5)));
                b.x.run(16);
                for (int f3 = 0; f3 < 8; f3++) {
                    b.isRegister("51 " + f3 + " " + r + " " + s, 0, 20 + f3, reckoned(f3, false, r, s));
                }
                b.isRegister("minus", 0, 28, r - s);
                b.isRegister("signed shift", 0, 29, r >> s);
                b.isRegister("x0 stays", 0, 0, 0);
                b.isRegister("itself", 0, 5, r + r);
                b.is("no errors", b.x.about(1), 0);
            }
        }
        start(b, Bench.set(31, 5), Bench.set(1, 6));
        b.x.run(2);
        b.isRegister("the last one", 0, 31, 5);
        b.isRegister("the first one", 0, 1, 6);
        b.is("register 32", b.x.register(0, 0, 32), 0);
        b.is("register -1", b.x.register(0, 0, -1), 0);
        b.is("of no process", b.x.register(0, 1, 5), 0);
        b.is("of no process", b.x.register(0, -1, 5), 0);
        b.is("of no partition", b.x.register(1, 0, 5), 0);
    }

    private static void numbers(Bench b) {
        Random some = new Random(5);
        for (int n = 0; n < 60; n++) {
            int r = n < EDGES.length ? EDGES[n] : some.nextInt();
            int i = n % 3 == 0 ? -2048 + n : some.nextInt(4096) - 2048;
            int shift = n % 32;
            start(b, Bench.code(Bench.setLong(5, r), Bench.withNumber(0, 20, 5, i), Bench.withNumber(2, 22, 5, i),
                    Bench.withNumber(3, 23, 5, i), Bench.withNumber(4, 24, 5, i), Bench.withNumber(6, 26, 5, i),
                    Bench.withNumber(7, 27, 5, i), Bench.withNumber(1, 21, 5, shift),
                    Bench.withNumber(5, 25, 5, shift), Bench.withNumber(5, 29, 5, shift | 1024)));
            b.x.run(11);
            for (int f3 = 0; f3 < 8; f3++) {
                int s = f3 == 1 || f3 == 5 ? shift : i;
                b.isRegister("19 " + f3 + " " + r + " " + s, 0, 20 + f3, reckoned(f3, false, r, s));
            }
            b.isRegister("signed shift", 0, 29, r >> shift);
        }
    }

    private static void uppersAndJumps(Bench b) {
        start(b, Bench.upper(5, 0xfffff000), 0x12345000 | 6 << 7 | 23, Bench.upper(0, -1), Bench.jump(1, 8),
                0, Bench.jump(2, -8), 0);
        b.x.run(3);
        b.isRegister("55", 0, 5, 0xfffff000);
        b.isRegister("23", 0, 6, 0x12345004);
        b.isRegister("x0", 0, 0, 0);
        b.x.run(1);
        b.isRegister("where it goes on", 0, 1, 16);
        b.is("jumped", b.x.state(0, 0, 1), 20);
        b.x.run(1);
        b.isRegister("back", 0, 2, 24);
        b.is("jumped back", b.x.state(0, 0, 1), 12);
        int[] far = {1048574, -1048576, 2048, 4096, -2, 1022, 2046};
        for (int by : far) {
            start(b, Bench.jump(3, by));
            b.x.run(1);
            b.is("far " + by, b.x.state(0, 0, 1), by);
            b.isRegister("far " + by, 0, 3, 4);
        }
        // 103: the lowest bit is taken off, and the register itself may be the one that is set
        start(b, Bench.set(5, 33), 7 << 20 | 5 << 15 | 5 << 7 | 103);
        b.x.run(2);
        b.is("103", b.x.state(0, 0, 1), 40);
        b.isRegister("103", 0, 5, 8);
        start(b, Bench.set(5, 0), -1 << 20 | 5 << 15 | 103);
        b.x.run(2);
        b.is("103 below 0", b.x.state(0, 0, 1), -2);
        b.x.run(1);
        b.isError("the next one is not there", 0, 2, 0, 0, 4, 0, -2);
    }

    private static void branches(Bench b) {
        int[] kinds = {0, 1, 4, 5, 6, 7};
        for (int r : EDGES) {
            for (int s : EDGES) {
                boolean below = (r & 0xffffffffL) < (s & 0xffffffffL);
                boolean[] taken = {r == s, r != s, r < s, r >= s, below, !below};
                for (int k = 0; k < 6; k++) {
                    if ((r + s & 3) != 0 && r != s) {
                        continue;
                    }
                    start(b, Bench.code(Bench.setLong(5, r), Bench.setLong(6, s),
                            Bench.branch(kinds[k], 5, 6, 64)));
                    b.x.run(5);
                    b.is("99 " + kinds[k] + " " + r + " " + s, b.x.state(0, 0, 1), taken[k] ? 80 : 20);
                }
            }
        }
        int[] far = {4094, -4096, -2, 2048, 30, 32, 1024};
        for (int by : far) {
            start(b, Bench.branch(0, 0, 0, by));
            b.x.run(1);
            b.is("branch " + by, b.x.state(0, 0, 1), by);
            b.is("branch " + by + " is no error", b.x.about(1), 0);
        }
    }

    private static void fetches(Bench b) {
        b.alone("process p { entry 0; priority 1; }");
        b.program(0, 0, Bench.set(5, 512), Bench.fetch(0, 6, 5, -1), Bench.fetch(4, 7, 5, -1),
                Bench.fetch(1, 8, 5, -2), Bench.fetch(5, 9, 5, -2), Bench.fetch(2, 20, 5, -4),
                Bench.fetch(0, 21, 5, -4), Bench.fetch(1, 22, 5, -4), Bench.fetch(4, 23, 5, -3),
                Bench.fetch(0, 24, 5, -2), Bench.fetch(2, 0, 5, -4), Bench.fetch(2, 5, 5, -4));
        b.program(0, 508, 0x8091a2b3);
        b.x.begin();
        b.is("twelve", b.x.run(12), 12);
        b.isRegister("byte", 0, 6, 0xffffff80);
        b.isRegister("byte without sign", 0, 7, 0x80);
        b.isRegister("half", 0, 8, 0xffff8091);
        b.isRegister("half without sign", 0, 9, 0x8091);
        b.isRegister("word", 0, 20, 0x8091a2b3);
        b.isRegister("the lowest byte first", 0, 21, 0xffffffb3);
        b.isRegister("the lowest half first", 0, 22, 0xffffa2b3);
        b.isRegister("the second byte", 0, 23, 0xa2);
        b.isRegister("the third byte", 0, 24, 0xffffff91);
        b.isRegister("x0", 0, 0, 0);
        b.isRegister("its own place", 0, 5, 0x8091a2b3);
        b.is("no errors", b.x.about(1), 0);
    }

    private static void stores(Bench b) {
        start(b, Bench.code(Bench.setLong(5, 0x11223344), Bench.set(6, 512), Bench.set(7, -1),
                Bench.store(2, 7, 6, -32), Bench.store(0, 5, 6, -31), Bench.store(1, 5, 6, -30),
                Bench.store(2, 5, 6, 508), Bench.store(0, 5, 6, 3), Bench.store(1, 5, 6, 0)));
        b.x.run(10);
        b.is("byte and half", b.x.peek(0, 480), 0x334444ff);
        b.is("word, the last", b.x.peek(0, 1020), 0x11223344);
        b.is("byte and half", b.x.peek(0, 512), 0x44003344);
        b.is("no errors", b.x.about(1), 0);
    }

    private static void illegals(Bench b) {
        int[] words = {0, -1, 1, 103 | 1 << 12, 103 | 7 << 12, 99 | 2 << 12, 99 | 3 << 12, 3 | 3 << 12, 3 | 6 << 12,
            3 | 7 << 12, 35 | 3 << 12, 35 | 4 << 12, 35 | 7 << 12, 19 | 1 << 12 | 1 << 25, 19 | 1 << 12 | 32 << 25,
            19 | 5 << 12 | 1 << 25, 19 | 5 << 12 | 33 << 25, 19 | 5 << 12 | 96 << 25, 51 | 1 << 25, 51 | 1 << 12 | 32 << 25,
            51 | 2 << 12 | 32 << 25, 51 | 3 << 12 | 32 << 25, 51 | 4 << 12 | 32 << 25, 51 | 6 << 12 | 32 << 25,
            51 | 7 << 12 | 32 << 25, 51 | 64 << 25, 115 | 1 << 7, 115 | 1 << 20, 115 | 1 << 12, 115 | 1 << 15, 15, 7, 54};
        for (int word : words) {
            start(b, word);
            b.is("done", b.x.run(1), 1);
            b.isError("illegal " + word, 0, 0, 0, 0, 0, 0, word);
            b.is("skipped", b.x.state(0, 0, 1), 4);
        }
        // an illegal word is so ahead of the place that it tells
        start(b, Bench.fetch(3, 5, 0, 1), Bench.store(3, 5, 0, 1));
        b.x.run(2);
        b.isError("fetch", 1, 0, 0, 0, 0);
        b.isError("store", 0, 1, 0, 0, 0);
    }

    private static void places(Bench b) {
        start(b, Bench.set(5, 77), Bench.fetch(2, 5, 0, 2), Bench.fetch(1, 5, 0, 1), Bench.fetch(2, 5, 0, 1024),
                Bench.fetch(0, 5, 0, -1), Bench.fetch(1, 5, 0, -1), Bench.store(2, 5, 0, 1026),
                Bench.store(0, 5, 0, 1024), Bench.store(1, 5, 0, -2), Bench.jump(5, 990));
        b.x.run(11);
        int[][] wants = {{4, 2}, {4, 1}, {1, 1024}, {1, -1}, {4, -1}, {4, 1026}, {1, 1024}, {1, -2}};
        for (int i = 0; i < wants.length; i++) {
            b.is("kind " + i, b.x.error(8 - i, 3), wants[i][0]);
            b.is("code " + i, b.x.error(8 - i, 5), wants[i][1]);
        }
        b.isError("PC is no multiple of 4", 0, 10, 0, 0, 4, 0, 1026);
        b.isRegister("nothing is changed by what goes wrong", 0, 5, 40);
        b.is("PC 4 more", b.x.state(0, 0, 1), 1030);
        start(b, Bench.jump(0, 1024));
        b.x.run(2);
        b.isError("PC outside", 0, 1, 0, 0, 1, 0, 1024);
        start(b, Bench.jump(0, -4));
        b.x.run(3);
        b.isError("PC below 0", 0, 1, 0, 0, 1, 0, -4);
        b.is("it turns over", b.x.state(0, 0, 1), -4);
    }

    private static void regions(Bench b) {
        b.fresh();
        b.load("partition a { memory 256; regions { 64 code; 64 data; 64 table; 64 all; }"
                + " process p { entry 0; priority 1; } } frame { a 1; }");
        b.program(0, 0, Bench.set(5, 9), Bench.store(2, 5, 0, 60), Bench.store(2, 5, 0, 64), Bench.store(2, 5, 0, 124),
                Bench.store(2, 5, 0, 128), Bench.store(2, 5, 0, 188), Bench.store(2, 5, 0, 192), Bench.store(2, 5, 0, 252),
                Bench.fetch(2, 6, 0, 0), Bench.fetch(2, 7, 0, 64), Bench.fetch(2, 8, 0, 128), Bench.fetch(2, 9, 0, 192),
                Bench.jump(0, 192 - 48));
        b.program(0, 128, 1234);
        b.program(0, 196, Bench.set(20, 1), Bench.jump(0, 64 - 200));
        b.x.begin();
        b.x.run(13);
        b.is("three stores went wrong", b.x.about(1), 3);
        b.isError("in table", 0, 5, 0, 0, 1, 0, 188);
        b.isError("in table", 1, 4, 0, 0, 1, 0, 128);
        b.isError("in code", 2, 1, 0, 0, 1, 0, 60);
        b.is("data", b.x.peek(0, 64), 9);
        b.is("data", b.x.peek(0, 124), 9);
        b.is("all", b.x.peek(0, 252), 9);
        b.is("table stays", b.x.peek(0, 128), 1234);
        b.isRegister("read code", 0, 6, Bench.set(5, 9));
        b.isRegister("read data", 0, 7, 9);
        b.isRegister("read table", 0, 8, 1234);
        b.isRegister("read all", 0, 9, 9);
        b.is("at 192", b.x.state(0, 0, 1), 192);
        b.x.run(1);
        b.isError("9 in all is illegal", 0, 13, 0, 0, 0, 0, 9);
        b.x.run(2);
        b.isRegister("runs in all", 0, 20, 1);
        b.x.run(1);
        b.isError("not in data", 0, 16, 0, 0, 1, 0, 64);
        b.x.run(15);
        b.x.run(1);
        b.isError("not in table", 0, 32, 0, 0, 1, 0, 128);
    }
}
