/** Edges of the term THE MACHINE. Above each test stands the sentence that it is of. */
public final class EdgeMachineTest {
    private static final int LOWEST = Integer.MIN_VALUE;
    private static final int HIGHEST = Integer.MAX_VALUE;
    private static final int ILLEGAL = 0;
    private static final int MEMORY = 1;
    private static final int ALIGN = 4;

    public static void main(String[] args) {
        Bench b = new Bench();
        zeroIsAlwaysZero(b);
        lastRegister(b);
        placesOfInstructions(b);
        regionsOfInstructions(b);
        beyondTheLastRegion(b);
        alignIsAheadOfMemory(b);
        turningOver(b);
        upperNumbers(b);
        jumpsOfAllLengths(b);
        jumpsByARegister(b);
        branchesAtTheirEdges(b);
        branchesOfAllLengths(b);
        fetchesWithTheirSign(b);
        placesOfFetches(b);
        placesOfStores(b);
        placesThatTurnOver(b);
        sizesOfPlaces(b);
        regionsOfStores(b);
        regionsOfFetches(b);
        numbersAtTheirEdges(b);
        shiftsByNumbers(b);
        registersAtTheirEdges(b);
        shiftsByRegisters(b);
        justTheWord115(b);
        allElse(b);
        whatGoesWrongChangesNothing(b);
        setLast(b);
        b.finish();
    }

    /** One process with a program at 0, in 1024 bytes of all. */
    private static void start(Bench b, Object... parts) {
        b.alone("process p { entry 0; priority 1; }");
        b.program(0, 0, Bench.code(parts));
        b.x.begin();
    }

    /** What a register is behind one instruction, with r in x5 and s in x6. */
    private static int result(Bench b, int r, int s, int word, int register) {
        start(b, Bench.setLong(5, r), Bench.setLong(6, s), word);
        b.x.run(5);
        b.is("no error", b.x.about(1), 0);
        return b.x.register(0, 0, register);
    }

    private static void goesWrong(Bench b, int r, int s, int word, int kind, int code) {
        start(b, Bench.setLong(5, r), Bench.setLong(6, s), word);
        b.is("done", b.x.run(5), 5);
        b.is("one error", b.x.about(1), 1);
        b.isError("word " + word, 0, 4, 0, 0, kind, 0, code);
        b.is("x5 stays", b.x.register(0, 0, 5), r);
        b.is("x7 stays", b.x.register(0, 0, 7), 0);
        b.is("PC is 4 more", b.x.state(0, 0, 1), 20);
    }

    private static int byRegister(int f3, int rd, int r, int i) {
        return i << 20 | r << 15 | f3 << 12 | rd << 7 | 103;
    }

    // THE MACHINE: "Registers x0 .. x31 (x0 is 0 always), PC."
    private static void zeroIsAlwaysZero(Bench b) {
        int[] words = {Bench.upper(0, -1), -4096 | 23, Bench.jump(0, 4), byRegister(0, 0, 5, 20), Bench.fetch(2, 0, 0, 0),
            Bench.fetch(4, 0, 0, 0), Bench.set(0, -1), Bench.withRegister(0, 0, 0, 5, 6), Bench.withRegister(0, 3, 0, 5, 6)};
        for (int word : words) {
            b.is("x0 behind " + word, result(b, 0, 9, word, 0), 0);
            b.is("PC", b.x.state(0, 0, 1), 20);
        }
        start(b, Bench.set(0, 7), Bench.withNumber(0, 5, 0, 3), Bench.withRegister(0, 0, 6, 0, 5));
        b.x.run(3);
        b.isRegister("0 and 3", 0, 5, 3);
        b.isRegister("0 and 3", 0, 6, 3);
    }

    // THE MACHINE: "Registers x0 .. x31 (x0 is 0 always), PC."
    private static void lastRegister(Bench b) {
        for (int x = 1; x < 32; x++) {
            start(b, Bench.set(x, 40 + x), Bench.withRegister(0, 0, x, x, x));
            b.x.run(2);
            for (int other = 0; other < 32; other++) {
                b.isRegister("x" + x + " is set", 0, other, other == x ? 80 + 2 * x : 0);
            }
        }
    }

    // THE MACHINE: "An INSTRUCTION, a word w at PC (a multiple of 4, else error align; within the memory"
    private static void placesOfInstructions(Bench b) {
        start(b, Bench.jump(0, 1020));
        b.x.run(2);
        b.isError("the last word of the memory is the word 0", 0, 1, 0, 0, ILLEGAL, 0, 0);
        b.x.run(1);
        b.isError("one beyond", 0, 2, 0, 0, MEMORY, 0, 1024);
        int[][] wrong = {{1022, ALIGN}, {1024, MEMORY}, {1026, ALIGN}, {-4, MEMORY}, {-2, ALIGN}, {2, ALIGN}, {6, ALIGN},
            {1048572, MEMORY}, {-1048576, MEMORY}};
        for (int[] at : wrong) {
            start(b, Bench.jump(0, at[0]));
            b.x.run(2);
            b.isError("PC " + at[0], 0, 1, 0, 0, at[1], 0, at[0]);
        }
    }

    // THE MACHINE: "within the memory, in a region of code or all, else error memory; its lowest byte first)"
    private static void regionsOfInstructions(Bench b) {
        String[] sorts = {"code", "data", "table", "all"};
        for (int sort = 0; sort < 4; sort++) {
            int[] places = {64, 124};
            for (int place : places) {
                b.fresh();
                b.load("partition a { memory 256; regions { 64 code; 64 " + sorts[sort]
                        + "; 128 all; } process p { entry 0; priority 1; } } frame { a 1; }");
                b.x.image(0, 0, Bench.jump(0, place));
                b.x.image(0, place, Bench.set(7, 77));
                b.x.begin();
                b.x.run(2);
                boolean runs = sort == 0 || sort == 3;
                b.is("done in " + sorts[sort], b.x.register(0, 0, 7), runs ? 77 : 0);
                b.is("errors in " + sorts[sort], b.x.about(1), runs ? 0 : 1);
                b.is("PC", b.x.state(0, 0, 1), place + 4);
                if (!runs) {
                    b.isError(sorts[sort], 0, 1, 0, 0, MEMORY, 0, place);
                }
            }
        }
        b.fresh();
        b.load("partition a { memory 256; regions { 64 data; 64 code; 64 table; 64 all; }"
                + " process p { entry 60; priority 1; } process q { entry 128; priority 1; } } frame { a 1; }");
        b.x.image(0, 64, Bench.set(7, 5));
        b.x.begin();
        b.x.run(2);
        b.isError("the last word of data", 0, 0, 0, 0, MEMORY, 0, 60);
        b.isRegister("the first one of code", 0, 7, 5);
    }

    // THE MACHINE: "within the memory, in a region of code or all, else error memory" Beyond the last of six regions there is
    // none.
    private static void beyondTheLastRegion(Bench b) {
        b.fresh();
        b.load("partition a { memory 512; regions { " + Bench.times(5, "64 code; ") + "192 all; } process p { entry 0; priority 1; } }"
                + " frame { a 1; }");
        b.program(0, 0, Bench.set(5, 9), Bench.store(2, 5, 0, 508), Bench.store(2, 5, 0, 512), Bench.fetch(2, 6, 0, 508),
                Bench.fetch(2, 6, 0, 512), Bench.jump(0, 488));
        b.x.begin();
        b.x.run(8);
        b.is("the last place", b.x.peek(0, 508), 9);
        b.isRegister("the last place", 0, 6, 9);
        b.isError("store", 3, 2, 0, 0, MEMORY, 0, 512);
        b.isError("fetch", 2, 4, 0, 0, MEMORY, 0, 512);
        b.isError("the last place is run", 1, 6, 0, 0, ILLEGAL, 0, 9);
        b.isError("PC", 0, 7, 0, 0, MEMORY, 0, 512);
    }

    // THE MACHINE: "(a multiple of 4, else error align; within the memory, in a region of code or all, else error memory"
    private static void alignIsAheadOfMemory(Bench b) {
        b.fresh();
        b.load("partition a { memory 256; regions { 64 code; 192 data; } process p { entry 0; priority 1; } } frame { a 1; }");
        b.x.image(0, 0, Bench.jump(0, 66));
        b.x.begin();
        b.x.run(2);
        b.isError("in data, and no multiple of 4", 0, 1, 0, 0, ALIGN, 0, 66);
        start(b, Bench.jump(0, 2046));
        b.x.run(2);
        b.isError("outside, and no multiple of 4", 0, 1, 0, 0, ALIGN, 0, 2046);
    }

    // THE MACHINE: "PC is 4 more behind it, if nothing else is said; reckoned with 32 bits, turning over."
    private static void turningOver(Bench b) {
        start(b, Bench.jump(1, -4));
        b.x.run(2);
        b.isError("the last place of all", 0, 1, 0, 0, MEMORY, 0, -4);
        b.is("4 more is 0", b.x.state(0, 0, 1), 0);
        b.is("it goes on there", b.x.run(1), 1);
        b.is("the jump again", b.x.state(0, 0, 1), -4);
        start(b, Bench.setLong(5, HIGHEST), byRegister(0, 1, 5, 0));
        b.x.run(4);
        b.isError("2147483646", 0, 3, 0, 0, ALIGN, 0, HIGHEST - 1);
        b.is("4 more", b.x.state(0, 0, 1), LOWEST + 2);
    }

    // THE MACHINE: "55: rd = u. 23: rd = PC + u."
    private static void upperNumbers(Bench b) {
        int[] uppers = {0, 0x1000, 0x7ffff000, LOWEST, 0xfffff000};
        for (int u : uppers) {
            b.is("55", result(b, 1, 1, Bench.upper(7, u), 7), u);
            b.is("23", result(b, 1, 1, u | 7 << 7 | 23, 7), 16 + u);
        }
    }

    // THE MACHINE: "111: rd = PC + 4, PC += j (bits 31, 19 .. 12, 20, 30 .. 21 of w, then a 0, the first one the sign)."
    private static void jumpsOfAllLengths(Bench b) {
        for (int bit = 1; bit <= 20; bit++) {
            int by = bit == 20 ? -(1 << 20) : 1 << bit;
            b.is("x7", result(b, 0, 0, Bench.jump(7, by), 7), 20);
            b.is("by " + by, b.x.state(0, 0, 1), 16 + by);
        }
        int[] most = {1048574, -1048576, -2, 0};
        for (int by : most) {
            b.is("x7", result(b, 0, 0, Bench.jump(7, by), 7), 20);
            b.is("by " + by, b.x.state(0, 0, 1), 16 + by);
        }
    }

    // THE MACHINE: "103, f3 0: rd = PC + 4, PC = (r + i) & ~1."
    private static void jumpsByARegister(Bench b) {
        int[][] rows = {{0, 0, 0}, {40, 0, 40}, {41, 0, 40}, {40, 1, 40}, {41, 1, 42}, {41, -1, 40}, {0, 2047, 2046},
            {0, -2048, -2048}, {-8, 8, 0}, {-1, 1, 0}, {HIGHEST, 1, LOWEST}, {LOWEST, -1, HIGHEST - 1}};
        for (int[] row : rows) {
            b.is("x7", result(b, row[0], 0, byRegister(0, 7, 5, row[1]), 7), 20);
            b.is("PC " + row[0] + " " + row[1], b.x.state(0, 0, 1), row[2]);
        }
        for (int f3 = 1; f3 < 8; f3++) {
            int word = byRegister(f3, 7, 5, 0);
            goesWrong(b, 40, 0, word, ILLEGAL, word);
        }
    }

    // THE MACHINE: "99: if f3 0 r = s, 1 r != s, 4 r < s, 5 r >= s, 6 r < s, 7 r >= s (6, 7 without sign): PC += b"
    private static void branchesAtTheirEdges(Bench b) {
        int[][] rows = {{0, 0}, {0, 1}, {1, 0}, {-1, 0}, {0, -1}, {-1, 1}, {LOWEST, HIGHEST}, {HIGHEST, LOWEST},
            {LOWEST, LOWEST}, {HIGHEST, HIGHEST}, {-1, -1}, {HIGHEST, HIGHEST - 1}, {LOWEST, LOWEST + 1}, {0, LOWEST}};
        for (int[] row : rows) {
            int r = row[0];
            int s = row[1];
            boolean below = (r & 0xffffffffL) < (s & 0xffffffffL);
            boolean[] taken = {r == s, r != s, false, false, r < s, r >= s, below, !below};
            for (int f3 = 0; f3 < 8; f3++) {
                int word = Bench.branch(f3, 5, 6, 100);
                if (f3 == 2 || f3 == 3) {
                    goesWrong(b, r, s, word, ILLEGAL, word);
                } else {
                    result(b, r, s, word, 0);
                    b.is("f3 " + f3 + " " + r + " " + s, b.x.state(0, 0, 1), taken[f3] ? 116 : 20);
                }
            }
        }
    }

    // THE MACHINE: "PC += b (bits 31, 7, 30 .. 25, 11 .. 8, then a 0)."
    private static void branchesOfAllLengths(Bench b) {
        for (int bit = 1; bit <= 12; bit++) {
            int by = bit == 12 ? -(1 << 12) : 1 << bit;
            result(b, 0, 0, Bench.branch(0, 5, 6, by), 0);
            b.is("by " + by, b.x.state(0, 0, 1), 16 + by);
        }
        int[] most = {4094, -4096, -2, 0};
        for (int by : most) {
            result(b, 0, 0, Bench.branch(0, 5, 6, by), 0);
            b.is("by " + by, b.x.state(0, 0, 1), 16 + by);
        }
    }

    // THE MACHINE: "3, f3 0, 1, 2, 4, 5: rd = byte, half, word, byte, half (0, 1 with their sign) at r + i."
    private static void fetchesWithTheirSign(Bench b) {
        int[] words = {0, 0x7f7f7f7f, 0x80808080, -1, 0x7fff8000, 0x80007fff, LOWEST, HIGHEST, 0x01020304};
        for (int word : words) {
            for (int at = 0; at < 4; at++) {
                int part = word >>> 8 * at;
                b.is("byte", fetched(b, word, 0, at), (byte) part);
                b.is("byte without sign", fetched(b, word, 4, at), part & 255);
                if (at % 2 == 0) {
                    b.is("half", fetched(b, word, 1, at), (short) part);
                    b.is("half without sign", fetched(b, word, 5, at), part & 65535);
                }
            }
            b.is("word", fetched(b, word, 2, 0), word);
        }
        int[] others = {3, 6, 7};
        for (int f3 : others) {
            int word = Bench.fetch(f3, 7, 5, 0);
            goesWrong(b, 512, 0, word, ILLEGAL, word);
        }
    }

    private static int fetched(Bench b, int word, int f3, int at) {
        b.alone("process p { entry 0; priority 1; }");
        b.x.image(0, 0, Bench.fetch(f3, 7, 0, 512 + at));
        b.x.image(0, 512, word);
        b.x.begin();
        b.x.run(1);
        b.is("no error", b.x.about(1), 0);
        return b.x.register(0, 0, 7);
    }

    // THE MACHINE: "Places must be a multiple of the size, else error align; within the memory" Of 3.
    private static void placesOfFetches(Bench b) {
        int[] kinds = {0, 1, 2, 4, 5};
        for (int f3 : kinds) {
            int size = 1 << (f3 & 3);
            result(b, 1024 - size, 0, Bench.fetch(f3, 7, 5, 0), 7);
            result(b, 0, 0, Bench.fetch(f3, 7, 5, 1024 - size), 7);
            result(b, 0, 0, Bench.fetch(f3, 0, 5, 0), 7);
            goesWrong(b, 1024, 0, Bench.fetch(f3, 7, 5, 0), MEMORY, 1024);
            goesWrong(b, -size, 0, Bench.fetch(f3, 7, 5, 0), MEMORY, -size);
            goesWrong(b, 0, 0, Bench.fetch(f3, 0, 5, 1024), MEMORY, 1024);
            goesWrong(b, LOWEST, 0, Bench.fetch(f3, 7, 5, 0), MEMORY, LOWEST);
            goesWrong(b, HIGHEST + 1 - size, 0, Bench.fetch(f3, 7, 5, 0), MEMORY, HIGHEST + 1 - size);
        }
    }

    // THE MACHINE: "35, f3 0, 1, 2: byte, half, word at r + (bits 31 .. 25, 11 .. 7) = s."
    private static void placesOfStores(Bench b) {
        int[] offsets = {0, 1, 31, 32, 63, 64, 1023, 2047, -1, -32, -33, -2048};
        for (int i : offsets) {
            result(b, 600 - i, 0x11223344, Bench.store(0, 6, 5, i), 0);
            b.is("byte at 600", b.x.peek(0, 600), 0x44);
        }
        result(b, 600, 0x11223344, Bench.store(1, 6, 5, 2), 0);
        b.is("half at 602", b.x.peek(0, 600), 0x33440000);
        result(b, 600, 0x11223344, Bench.store(0, 6, 5, 3), 0);
        b.is("byte at 603", b.x.peek(0, 600), 0x44000000);
        for (int f3 = 0; f3 < 3; f3++) {
            int size = 1 << f3;
            result(b, 1024 - size, -1, Bench.store(f3, 6, 5, 0), 0);
            b.is("the last one", b.x.peek(0, 1020), -1 << 32 - 8 * size);
            goesWrong(b, 1024, -1, Bench.store(f3, 6, 5, 0), MEMORY, 1024);
            goesWrong(b, -size, -1, Bench.store(f3, 6, 5, 0), MEMORY, -size);
            b.is("nothing there", b.x.peek(0, 1020), 0);
        }
        for (int f3 = 3; f3 < 8; f3++) {
            int word = Bench.store(f3, 6, 5, 0);
            goesWrong(b, 512, 0, word, ILLEGAL, word);
        }
    }

    // THE MACHINE: "reckoned with 32 bits, turning over." Places, too.
    private static void placesThatTurnOver(Bench b) {
        b.is("the first instruction", result(b, -2048, 0, Bench.withNumber(0, 7, 5, 2047), 7), -1);
        result(b, -4, 0, Bench.fetch(2, 7, 5, 4), 7);
        b.is("place 0", b.x.register(0, 0, 7), b.x.peek(0, 0));
        result(b, -8, 77, Bench.store(2, 6, 5, 1028), 0);
        b.is("place 1020", b.x.peek(0, 1020), 77);
        goesWrong(b, HIGHEST, 0, Bench.fetch(2, 7, 5, 1), MEMORY, LOWEST);
        goesWrong(b, LOWEST, 0, Bench.store(2, 6, 5, -4), MEMORY, HIGHEST - 3);
    }

    // THE MACHINE: "Places must be a multiple of the size, else error align; within the memory, for 35 in a region of data or
    // all, else error memory."
    private static void sizesOfPlaces(Bench b) {
        int[] places = {511, 513, 514, 515, 1021, 1022, 1023, 1025, 1026, 1027, -1, -2, -3};
        for (int place : places) {
            for (int f3 = 0; f3 < 3; f3++) {
                boolean aligned = (place & (1 << f3) - 1) == 0;
                int fetch = Bench.fetch(f3, 7, 5, 0);
                int store = Bench.store(f3, 6, 5, 0);
                if (aligned && place >= 0 && place < 1024) {
                    result(b, place, 0, fetch, 7);
                    result(b, place, 0, store, 7);
                } else {
                    goesWrong(b, place, 0, fetch, aligned ? MEMORY : ALIGN, place);
                    goesWrong(b, place, 0, store, aligned ? MEMORY : ALIGN, place);
                }
            }
        }
    }

    // THE MACHINE: "within the memory, for 35 in a region of data or all, else error memory."
    private static void regionsOfStores(Bench b) {
        int[] places = {0, 60, 64, 124, 128, 188, 192, 252};
        for (int place : places) {
            b.fresh();
            b.load("partition a { memory 512; regions { 64 table; 64 data; 64 code; 64 all; 256 code; }"
                    + " process p { entry 256; priority 1; } } frame { a 1; }");
            b.program(0, 256, Bench.set(5, -1), Bench.store(0, 5, 0, place + 3), Bench.store(1, 5, 0, place + 2),
                    Bench.store(2, 5, 0, place));
            b.x.begin();
            b.x.run(4);
            boolean may = place >= 64 && place < 128 || place >= 192;
            b.is("place " + place, b.x.peek(0, place), may ? -1 : 0);
            b.is("errors at " + place, b.x.about(1), may ? 0 : 3);
            if (!may) {
                b.isError("word", 0, 3, 0, 0, MEMORY, 0, place);
                b.isError("half", 1, 2, 0, 0, MEMORY, 0, place + 2);
                b.isError("byte", 2, 1, 0, 0, MEMORY, 0, place + 3);
            }
        }
        b.fresh();
        b.load("partition a { memory 512; regions { 256 table; 256 code; } process p { entry 256; priority 1; } } frame { a 1; }");
        b.program(0, 256, Bench.set(5, -1), Bench.store(2, 5, 0, 2));
        b.x.begin();
        b.x.run(2);
        b.isError("align is ahead of the region", 0, 1, 0, 0, ALIGN, 0, 2);
    }

    // THE MACHINE: "Places must be a multiple of the size, else error align; within the memory" A fetch is not bound to
    // regions.
    private static void regionsOfFetches(Bench b) {
        b.fresh();
        b.load("partition a { memory 512; regions { 64 table; 64 data; 64 code; 64 all; 256 code; }"
                + " process p { entry 256; priority 1; } } frame { a 1; }");
        for (int i = 0; i < 4; i++) {
            b.x.image(0, 64 * i, 10 + i);
            b.x.image(0, 64 * i + 60, 20 + i);
            b.x.image(0, 256 + 8 * i, Bench.fetch(2, 5 + i, 0, 64 * i));
            b.x.image(0, 260 + 8 * i, Bench.fetch(2, 20 + i, 0, 64 * i + 60));
        }
        b.x.begin();
        b.x.run(8);
        for (int i = 0; i < 4; i++) {
            b.isRegister("its first", 0, 5 + i, 10 + i);
            b.isRegister("its last", 0, 20 + i, 20 + i);
        }
        b.is("no error", b.x.about(1), 0);
    }

    // THE MACHINE: "19: f3 0 r + i; 2 r < i (1 or 0); 3 that without sign; 4 r ^ i; 6 r | i; 7 r & i"
    private static void numbersAtTheirEdges(Bench b) {
        int[] registers = {0, 1, -1, 2046, 2047, 2048, -2047, -2048, -2049, LOWEST, HIGHEST};
        int[] numbers = {0, 1, -1, 2047, -2048};
        for (int r : registers) {
            for (int i : numbers) {
                b.is("r + i", result(b, r, 0, Bench.withNumber(0, 7, 5, i), 7), r + i);
                b.is("r < i", result(b, r, 0, Bench.withNumber(2, 7, 5, i), 7), r < i ? 1 : 0);
                b.is("without sign", result(b, r, 0, Bench.withNumber(3, 7, 5, i), 7),
                        (r & 0xffffffffL) < (i & 0xffffffffL) ? 1 : 0);
                b.is("r ^ i", result(b, r, 0, Bench.withNumber(4, 7, 5, i), 7), r ^ i);
                b.is("r | i", result(b, r, 0, Bench.withNumber(6, 7, 5, i), 7), r | i);
                b.is("r & i", result(b, r, 0, Bench.withNumber(7, 7, 5, i), 7), r & i);
            }
        }
    }

    // THE MACHINE: "with n the lowest 5 bits of i: 1, f7 0: r << n; 5, f7 0: r >>> n; 5, f7 32: r >> n."
    private static void shiftsByNumbers(Bench b) {
        int[] registers = {1, -1, LOWEST, HIGHEST};
        int[] shifts = {0, 1, 30, 31};
        for (int r : registers) {
            for (int n : shifts) {
                b.is("<<", result(b, r, 0, Bench.withNumber(1, 7, 5, n), 7), r << n);
                b.is(">>>", result(b, r, 0, Bench.withNumber(5, 7, 5, n), 7), r >>> n);
                b.is(">>", result(b, r, 0, Bench.withNumber(5, 7, 5, 32 << 5 | n), 7), r >> n);
            }
        }
        int[] wrong = {1, 2, 16, 31, 33, 64, 96, 127};
        for (int f7 : wrong) {
            int left = Bench.withNumber(1, 7, 5, f7 << 5);
            int right = Bench.withNumber(5, 7, 5, f7 << 5);
            goesWrong(b, 1, 0, left, ILLEGAL, left);
            goesWrong(b, 1, 0, right, ILLEGAL, right);
        }
        int left = Bench.withNumber(1, 7, 5, 32 << 5);
        goesWrong(b, 1, 0, left, ILLEGAL, left);
    }

    // THE MACHINE: "51, f7 0, f3 0 .. 7: r + s, r << s, r < s, without sign, r ^ s, r >>> s, r | s, r & s; f7 32: f3 0 r - s"
    private static void registersAtTheirEdges(Bench b) {
        int[] edges = {0, 1, -1, LOWEST, HIGHEST};
        for (int r : edges) {
            for (int s : edges) {
                int[] wants = {r + s, r << s, r < s ? 1 : 0, (r & 0xffffffffL) < (s & 0xffffffffL) ? 1 : 0, r ^ s, r >>> s,
                    r | s, r & s};
                for (int f3 = 0; f3 < 8; f3++) {
                    b.is("f3 " + f3, result(b, r, s, Bench.withRegister(0, f3, 7, 5, 6), 7), wants[f3]);
                }
                b.is("r - s", result(b, r, s, Bench.withRegister(32, 0, 7, 5, 6), 7), r - s);
            }
        }
        int[] wrong = {1, 2, 31, 33, 64, 96, 127};
        for (int f7 : wrong) {
            for (int f3 = 0; f3 < 8; f3++) {
                int word = Bench.withRegister(f7, f3, 7, 5, 6);
                goesWrong(b, 1, 1, word, ILLEGAL, word);
            }
        }
        int[] just = {1, 2, 3, 4, 6, 7};
        for (int f3 : just) {
            int word = Bench.withRegister(32, f3, 7, 5, 6);
            goesWrong(b, 1, 1, word, ILLEGAL, word);
        }
    }

    // THE MACHINE: "f7 32: f3 0 r - s, 5 r >> s (shifts by the lowest 5 bits)."
    private static void shiftsByRegisters(Bench b) {
        int[] shifts = {0, 1, 31, 32, 33, 63, 64, -1, -32, LOWEST, HIGHEST};
        for (int s : shifts) {
            int n = s & 31;
            b.is("<<", result(b, -3, s, Bench.withRegister(0, 1, 7, 5, 6), 7), -3 << n);
            b.is(">>>", result(b, -3, s, Bench.withRegister(0, 5, 7, 5, 6), 7), -3 >>> n);
            b.is(">>", result(b, -3, s, Bench.withRegister(32, 5, 7, 5, 6), 7), -3 >> n);
        }
    }

    // THE MACHINE: "115: just the word 115, a CALL."
    private static void justTheWord115(Bench b) {
        start(b, Bench.set(17, 31), Bench.set(10, 9), Bench.CALL);
        b.x.run(3);
        b.isRegister("a CALL", 0, 10, 0);
        b.is("no error", b.x.about(1), 0);
        for (int bit = 7; bit < 32; bit++) {
            int word = 115 | 1 << bit;
            goesWrong(b, 9, 9, word, ILLEGAL, word);
        }
    }

    // THE MACHINE: "All else: error illegal."
    private static void allElse(Bench b) {
        for (int op = 0; op < 128; op++) {
            if (op != 55 && op != 23 && op != 111 && op != 103 && op != 99 && op != 3 && op != 35 && op != 19 && op != 51
                    && op != 115) {
                goesWrong(b, 0, 0, op, ILLEGAL, op);
                goesWrong(b, 0, 0, -128 | op, ILLEGAL, -128 | op);
            }
        }
    }

    // THE MACHINE: "What goes wrong changes nothing; rd is set last."
    private static void whatGoesWrongChangesNothing(Bench b) {
        int[] wrong = {Bench.fetch(2, 5, 5, 0), Bench.fetch(1, 5, 5, 0), Bench.fetch(0, 5, 0, 1024), Bench.store(2, 6, 5, 0),
            Bench.store(0, 6, 0, 1024), Bench.withRegister(1, 0, 5, 5, 6), byRegister(1, 5, 5, 0), Bench.withNumber(1, 5, 5, 32)};
        for (int word : wrong) {
            start(b, Bench.setLong(5, 601), Bench.setLong(6, -1), word);
            b.x.run(4);
            int[] ahead = new int[256];
            for (int i = 0; i < 256; i++) {
                ahead[i] = b.x.peek(0, 4 * i);
            }
            b.x.run(1);
            b.is("it went wrong", b.x.about(1), 1);
            for (int i = 0; i < 256; i++) {
                b.is("memory at " + 4 * i, b.x.peek(0, 4 * i), ahead[i]);
            }
            for (int x = 0; x < 32; x++) {
                b.isRegister("behind " + word, 0, x, x == 5 ? 601 : x == 6 ? -1 : 0);
            }
        }
    }

    // THE MACHINE: "What goes wrong changes nothing; rd is set last." The register that is read may be the one that is set.
    private static void setLast(Bench b) {
        b.is("103 sets x5", result(b, 41, 0, byRegister(0, 5, 5, 0), 5), 20);
        b.is("but goes by the old one", b.x.state(0, 0, 1), 40);
        b.alone("process p { entry 0; priority 1; }");
        b.program(0, 0, Bench.set(5, 512), Bench.fetch(2, 5, 5, 0));
        b.x.image(0, 512, -9);
        b.x.begin();
        b.x.run(2);
        b.isRegister("a fetch by x5 to x5", 0, 5, -9);
        b.is("x5 = x5 - x6", result(b, 7, 9, Bench.withRegister(32, 0, 5, 5, 6), 5), -2);
        b.is("x6 = x5 - x6", result(b, 7, 9, Bench.withRegister(32, 0, 6, 5, 6), 6), -2);
    }
}
