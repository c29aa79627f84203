/** Edges of the term CONFIGURATION: its numbers, how many there may be, how they are numbered. */
public final class EdgeNumbersTest {
    private static final String A = "partition a { memory 256; ";
    private static final String F = " frame { a 1; }";
    private static final String P = "process p { entry 0; priority 1; ";

    public static void main(String[] args) {
        Bench b = new Bench();
        memories(b);
        regionSizes(b);
        regionsThatAreLeft(b);
        howManyRegions(b);
        entries(b);
        priorities(b);
        times(b);
        semaphores(b);
        buffers(b);
        limits(b);
        depths(b);
        goals(b);
        windows(b);
        ticks(b);
        partitions(b);
        channels(b);
        processesAndPorts(b);
        otherThings(b);
        oneSetOfNames(b);
        numbering(b);
        numberingOfChannels(b);
        b.finish();
    }

    /** Each of the numbers may stand between the two texts. */
    private static void fine(Bench b, String ahead, String behind, int... numbers) {
        for (int n : numbers) {
            b.fine(ahead + n + behind);
        }
    }

    /** None of them may. */
    private static void wrong(Bench b, String ahead, String behind, int... numbers) {
        for (int n : numbers) {
            b.faulty(5, ahead + "^" + n + behind);
        }
    }

    // CONFIGURATION: "N bytes, 256 .. 8192, a multiple of 256."
    private static void memories(Bench b) {
        for (int n = 256; n <= 8192; n += 256) {
            b.fine("partition a { memory " + n + "; }" + F);
            b.is("bytes", b.x.partition(0, 1), n);
        }
        wrong(b, "partition a { memory ", "; }" + F, 0, 1, 64, 128, 252, 255, 257, 260, 384, 8191, 8193, 8448, 16384, 999999);
    }

    // CONFIGURATION: "each of N bytes, a multiple of 64, at least 64 and not more than is left, all together the memory"
    private static void regionSizes(Bench b) {
        b.fine(A + "regions { 256 all; } }" + F);
        b.fine(A + "regions { 64 all; 192 all; } }" + F);
        b.fine("partition a { memory 8192; regions { 8192 all; } }" + F);
        b.fine("partition a { memory 8192; regions { 8128 all; 64 all; } }" + F);
        wrong(b, A + "regions { ", " all;", 0, 1, 32, 63, 65, 96, 100, 255, 257, 320, 512, 999999);
        wrong(b, "partition a { memory 8192; regions { ", " all;", 8191, 8256);
    }

    // CONFIGURATION: "a multiple of 64, at least 64 and not more than is left, all together the memory"
    private static void regionsThatAreLeft(Bench b) {
        for (int left = 64; left < 256; left += 64) {
            String ahead = A + "regions { " + (256 - left) + " code; ";
            b.fine(ahead + left + " data; } }" + F);
            b.is("from here on", b.x.region(0, 1, 0), 256 - left);
            b.is("so many", b.x.region(0, 1, 1), left);
            wrong(b, ahead, " data;", 0, left - 1, left + 1, left + 64, 256 + 64);
        }
        wrong(b, A + "regions { 256 all; ", " all;", 0, 64, 256);
        b.faulty(7, A + "^regions { 64 all; }");
        b.faulty(7, A + "^regions { 64 all; 128 all; }");
        b.faulty(7, "partition a { memory 8192; ^regions { 8128 all; }");
    }

    // CONFIGURATION: "regions { N SORT ; .. } , one to 6"
    private static void howManyRegions(Bench b) {
        b.faulty(1, A + "regions { ^}");
        for (int n = 1; n <= 6; n++) {
            b.fine("partition a { memory 512; regions { " + Bench.times(n - 1, "64 code; ") + (512 - 64 * (n - 1))
                    + " all; } }" + F);
            b.is("regions", b.x.partition(0, 12), n);
            b.is("the last one", b.x.region(0, n - 1, 2), 3);
            b.is("no more", b.x.region(0, n, 2), -1);
        }
        b.faulty(4, "partition a { memory 512; regions { " + Bench.times(6, "64 code; ") + "^128 all;");
    }

    // CONFIGURATION: "(entry: a multiple of 4 below the memory's size;"
    private static void entries(Bench b) {
        fine(b, A + "process p { entry ", "; priority 0; } }" + F, 0, 4, 128, 248, 252);
        b.x.begin();
        b.is("PC", b.x.state(0, 0, 1), 252);
        wrong(b, A + "process p { entry ", "; priority 0; } }" + F, 1, 2, 3, 5, 250, 251, 253, 255, 256, 260, 8188, 999999);
        fine(b, "partition a { memory 8192; process p { entry ", "; priority 0; } }" + F, 8188);
        wrong(b, "partition a { memory 8192; process p { entry ", "; priority 0; } }" + F, 8190, 8192);
    }

    // CONFIGURATION: "priority 0 .. 15;"
    private static void priorities(Bench b) {
        for (int n = 0; n <= 15; n++) {
            b.fine(A + "process p { entry 0; priority " + n + "; } }" + F);
            b.is("priority", b.x.state(0, 0, 2), n);
        }
        wrong(b, A + "process p { entry 0; priority ", "; } }" + F, 16, 17, 100, 999999);
    }

    // CONFIGURATION: "period, deadline, delay 1 .. 100000)."
    private static void times(Bench b) {
        String[] parts = {"period ", "deadline ", "delay "};
        for (String part : parts) {
            fine(b, A + P + part, "; } }" + F, 1, 2, 99999, 100000);
            wrong(b, A + P + part, "; } }" + F, 0, 100001, 999999);
        }
        b.fine(A + P + "deadline 100000; delay 100000; } }" + F);
        b.x.begin();
        b.isState("both at their most", 0, 0, 2, 0, 1, 200000, 100000, 0, 100000);
    }

    // CONFIGURATION: "semaphore NAME N : N ; (its count first, 0 .. 100, the most, 1 .. 100, not below that)."
    private static void semaphores(Bench b) {
        fine(b, A + "semaphore s ", " : 100; }" + F, 0, 1, 99, 100);
        b.is("the count first", b.x.thing(0, 0, 0), 100);
        wrong(b, A + "semaphore s ", " : 100; }" + F, 101, 999999);
        fine(b, A + "semaphore s 0 : ", "; }" + F, 1, 2, 99, 100);
        wrong(b, A + "semaphore s 0 : ", "; }" + F, 0, 101, 999999);
        fine(b, A + "semaphore s 50 : ", "; }" + F, 50, 51, 100);
        wrong(b, A + "semaphore s 50 : ", "; }" + F, 0, 1, 49, 101);
        b.fine(A + "semaphore s 1 : 1; }" + F);
        b.faulty(5, A + "semaphore s 1 : ^0;");
        b.faulty(5, A + "semaphore s 100 : ^99;");
    }

    // CONFIGURATION: "buffer NAME N ; (N words, 1 .. 16)."
    private static void buffers(Bench b) {
        for (int n = 1; n <= 16; n++) {
            b.alone("process p { entry 0; priority 1; } buffer u " + n + "; ");
            b.program(0, 0, Bench.set(17, 13), Bench.set(10, 0), Bench.CALL, Bench.jump(0, -8));
            b.x.begin();
            b.x.run(60);
            b.is("so many words", b.x.thing(0, 2, 0), n);
        }
        wrong(b, A + "buffer u ", "; }" + F, 0, 17, 18, 32, 999999);
    }

    // CONFIGURATION: "channel sampling N { SOURCE > GOAL , .. } with N a LIMIT, 0 .. 100000"
    private static void limits(Bench b) {
        fine(b, A + "} channel sampling ", " { input > output }" + F, 0, 1, 99999, 100000);
        b.is("LIMIT", b.x.channel(0, 2), 100000);
        wrong(b, A + "} channel sampling ", " { input > output }" + F, 100001, 999999);
    }

    // CONFIGURATION: "channel queuing N { SOURCE > GOAL } with N a DEPTH, 1 .. 32, and perhaps fifo behind it."
    private static void depths(Bench b) {
        for (int n = 1; n <= 32; n++) {
            b.fine(A + "port i in queuing; } channel queuing " + n + " { input > a.i }" + F);
            b.is("DEPTH", b.x.channel(0, 2), n);
            for (int t = 0; t < 40; t++) {
                b.x.input(0, t, t);
            }
            b.x.begin();
            b.x.run(40);
            b.is("so many words", b.x.channel(0, 1), n);
            b.is("the others are lost", b.x.channel(0, 4), 40 - n);
        }
        wrong(b, A + "} channel queuing ", " { input > output }" + F, 0, 33, 64, 999999);
        fine(b, A + "} channel queuing ", " fifo { input > output }" + F, 1, 32);
        b.faulty(1, A + "} channel queuing 1 fifo ^fifo");
        b.faulty(1, A + "} channel queuing ^fifo 1");
        b.faulty(1, A + "} channel sampling 1 ^fifo");
    }

    // CONFIGURATION: "with N a LIMIT, 0 .. 100000, and one to four GOALS"
    private static void goals(Bench b) {
        b.faulty(1, A + "} channel sampling 0 { input > ^}");
        b.faulty(1, A + "} channel sampling 0 { input ^}");
        for (int n = 1; n <= 4; n++) {
            String text = A + "} channel sampling 0 { input > output" + Bench.times(n - 1, ", output");
            b.fine(text + " }" + F);
            b.is("goals", b.x.channel(0, 5), n);
            b.faulty(n == 4 ? 4 : 1, text + ", ^}");
        }
        b.faulty(4, A + "} channel sampling 0 { input > output, output, output, output, ^output }");
        b.faulty(1, A + "} channel queuing 1 { input > output^, output }");
        b.faulty(1, A + "} channel queuing 1 { input > ^}");
    }

    // CONFIGURATION: "frame { NAME N ; .. } : one to 24 windows of N ticks, 1 .. 200." How many windows.
    private static void windows(Bench b) {
        b.faulty(1, A + "} frame { ^}");
        for (int n = 1; n <= 24; n++) {
            b.fine(A + "} frame { " + Bench.times(n, "a 1; ") + "}");
            b.is("windows", b.x.about(7), n);
        }
        b.faulty(4, A + "} frame { " + Bench.times(24, "a 1; ") + "^a 1; }");
    }

    // CONFIGURATION: "frame { NAME N ; .. } : one to 24 windows of N ticks, 1 .. 200." How many ticks.
    private static void ticks(Bench b) {
        fine(b, A + "} frame { a ", "; }", 1, 2, 199, 200);
        wrong(b, A + "} frame { a ", "; }", 0, 201, 999999);
        b.fine(A + "} partition b { memory 256; } frame { a 200; b 1; }");
        b.x.begin();
        b.x.run(199);
        b.is("the last tick of 200", b.x.about(3), 0);
        b.x.run(1);
        b.is("the window of one", b.x.about(3), 1);
        b.x.run(1);
        b.is("the first tick again", b.x.about(3), 0);
    }

    // CONFIGURATION: "PARTITIONS (1 to 16), then CHANNELS (none to 24), then the FRAME" How many partitions.
    private static void partitions(Bench b) {
        for (int n = 1; n <= 16; n++) {
            String text = Bench.times(n, "partition a# { memory 256; } ");
            b.fresh();
            b.is("load", b.load(text + "frame { a" + (n - 1) + " 1; }"), n);
            b.is("partitions", b.x.about(5), n);
            b.is("the last one", b.x.partition(n - 1, 1), 256);
            b.is("no more", b.x.partition(n, 1), -1);
        }
        b.faulty(4, Bench.times(16, "partition a# { memory 256; } ") + "partition ^b { memory 256; }");
        b.faulty(1, "^");
    }

    // CONFIGURATION: "PARTITIONS (1 to 16), then CHANNELS (none to 24), then the FRAME" How many channels.
    private static void channels(Bench b) {
        for (int n = 0; n <= 24; n++) {
            b.fine(A + "} " + Bench.times(n, "channel queuing 1 { input > output } ") + F);
            b.is("channels", b.x.about(6), n);
            b.is("from input", b.x.about(8), n);
            b.is("to output", b.x.about(9), n);
            b.is("no more", b.x.channel(n, 0), -1);
        }
        b.faulty(4, A + "} " + Bench.times(24, "channel queuing 1 { input > output } ") + "^channel queuing 1");
    }

    // CONFIGURATION: "At most 16 processes and 16 ports, 8 of each other thing in a partition."
    private static void processesAndPorts(Bench b) {
        String[] things = {"process p# { entry 0; priority 1; } ", "port p# in sampling; "};
        int[] what = {2, 7};
        for (int i = 0; i < 2; i++) {
            b.fine(A + Bench.times(16, things[i]) + "}" + F);
            b.is("sixteen", b.x.partition(0, what[i]), 16);
            b.faulty(4, A + Bench.times(16, things[i]) + things[i].replace(" p# ", " ^q "));
        }
        b.is("a second partition has as many", b.load(A + Bench.times(16, things[0]) + "} partition b { memory 256; "
                + Bench.times(16, things[0]) + "}" + F), 2);
    }

    // CONFIGURATION: "At most 16 processes and 16 ports, 8 of each other thing in a partition."
    private static void otherThings(Bench b) {
        String[] things = {"semaphore t# 1 : 2; ", "event t#; ", "buffer t# 1; ", "board t#; "};
        for (int sort = 0; sort < 4; sort++) {
            b.fine(A + Bench.times(8, things[sort]) + "}" + F);
            b.is("eight", b.x.partition(0, 3 + sort), 8);
            b.is("the last one", b.x.thing(0, sort, 7), sort == 0 ? 1 : 0);
            b.is("no more", b.x.thing(0, sort, 8), -1);
            b.faulty(4, A + Bench.times(8, things[sort]) + things[sort].replace(" t#", " ^x"));
        }
        b.fine(A + Bench.times(8, "semaphore s# 1 : 2; event e#; buffer u# 1; board o#; ") + "}" + F);
    }

    // CONFIGURATION: "All names of a partition, of whatever sort, are one set."
    private static void oneSetOfNames(Bench b) {
        String[] things = {"process x { entry 0; priority 1; } ", "semaphore x 0 : 1; ", "event x; ", "buffer x 1; ",
            "board x; ", "port x in sampling; "};
        for (String first : things) {
            for (String second : things) {
                b.faulty(3, A + first + second.replace(" x", " ^x"));
                b.fine(A + first + second.replace(" x", " y") + "}" + F);
                b.fine(A + first + "} partition b { memory 256; " + second + "}" + F);
            }
            b.fine("partition x { memory 256; " + first + "} frame { x 1; }");
        }
    }

    // CONFIGURATION: "All are numbered by their order, from 0 on: things of one sort in a partition"
    private static void numbering(Bench b) {
        b.fresh();
        b.load("partition b { memory 512; event e; semaphore s 7 : 9; semaphore r 3 : 9; event f; process z { entry 0;"
                + " priority 4; } semaphore a 5 : 9; process a1 { entry 0; priority 2; } } partition a { memory 256; }"
                + " frame { a 1; b 1; }");
        b.is("partition 0", b.x.partition(0, 1), 512);
        b.is("partition 1", b.x.partition(1, 1), 256);
        b.is("semaphore 0", b.x.thing(0, 0, 0), 7);
        b.is("semaphore 1", b.x.thing(0, 0, 1), 3);
        b.is("semaphore 2", b.x.thing(0, 0, 2), 5);
        b.is("process 0", b.x.state(0, 0, 2), 4);
        b.is("process 1", b.x.state(0, 1, 2), 2);
        b.x.begin();
        b.is("window 0 is a's", b.x.about(3), 1);
    }

    // CONFIGURATION: "All are numbered by their order, from 0 on: things of one sort in a partition, channels, those from input
    // and to output among the channels."
    private static void numberingOfChannels(Bench b) {
        b.fresh();
        b.load(A + "port o out sampling; port p out queuing; port i in sampling; } channel queuing 4 { a.p > output }"
                + " channel sampling 5 { input > a.i, output, output } channel sampling 6 { a.o > output }"
                + " channel queuing 7 { input > output }" + F);
        for (int c = 0; c < 4; c++) {
            b.is("channel " + c, b.x.channel(c, 2), 4 + c);
        }
        b.is("two from input", b.x.about(8), 2);
        b.is("four to output", b.x.about(9), 4);
        b.is("port 0", b.x.thing(0, 4, 0), 2);
        b.is("port 1", b.x.thing(0, 4, 1), 0);
        b.is("port 2", b.x.thing(0, 4, 2), 1);
        b.x.input(0, 0, 11);
        b.x.input(1, 0, 22);
        b.refuses("no third", IndexOutOfBoundsException.class, () -> b.x.input(2, 0, 33));
        b.x.begin();
        b.x.run(1);
        b.isTrace("the first from input is channel 1", 0, 0, 1, 11);
        b.isTrace("once for each goal", 1, 0, 1, 11);
        b.isTrace("the second is channel 3", 2, 0, 3, 22);
    }
}
