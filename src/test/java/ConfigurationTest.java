/** Promises 4 and 5: load and fault; 13, 16, 18 and 22 as far as a configuration tells them. */
public final class ConfigurationTest {
    private static final String A = "partition a { memory 256; ";
    private static final String F = " frame { a 1; }";

    public static void main(String[] args) {
        Bench b = new Bench();
        whole(b);
        words(b);
        heads(b);
        regions(b);
        processes(b);
        things(b);
        errors(b);
        channels(b);
        goals(b);
        frames(b);
        tooMany(b);
        anew(b);
        b.finish();
    }

    private static void whole(Bench b) {
        b.fresh();
        b.is("load", b.load("partition first { memory 512;\nregions { 64 code; 128 data; 64 table; 256 all; }\n"
                + "process p { entry 508; priority 15; period 100000; deadline 1; delay 7; handler; stopped; }\n"
                + "process q { entry 0; priority 0; deadline 3; }\n"
                + "semaphore s 0 : 1; semaphore t 100 : 100 fifo; event e; buffer u 1; buffer v 16 fifo; board o;\n"
                + "port i in queuing; port j out sampling;\n"
                + "errors { memory : handle; illegal : skip; late : stop; raised : idle; align : cold; } }\n"
                + "partition illegal{memory 8192;port skip in sampling;port q out queuing;}\n"
                + "channel sampling 0 { first.j > illegal.skip, output }"
                + "channel queuing 32 fifo { illegal.q > first.i } channel sampling 100000 { input > output }"
                + "frame { first 200; illegal 1; }"), 2);
        b.is("fault", b.x.fault(0), 0);
        b.is("place", b.x.fault(1), -1);
        b.is("another what", b.x.fault(2), -1);
        b.is("another what", b.x.fault(-1), -1);
        int[] wants = {0, 512, 2, 2, 1, 2, 1, 2, 0, 0, -1, -1, 4, 0};
        for (int what = 0; what < wants.length; what++) {
            b.is("partition " + what, b.x.partition(0, what), wants[what]);
        }
        int[][] regions = {{0, 64, 0}, {64, 128, 1}, {192, 64, 2}, {256, 256, 3}};
        for (int k = 0; k < 4; k++) {
            for (int what = 0; what < 3; what++) {
                b.is("region " + k + " " + what, b.x.region(0, k, what), regions[k][what]);
            }
        }
        b.is("region 4", b.x.region(0, 4, 0), -1);
        b.is("region -1", b.x.region(0, -1, 0), -1);
        b.is("region what 3", b.x.region(0, 0, 3), -1);
        b.is("region of none", b.x.region(2, 0, 0), -1);
        b.is("one of all", b.x.region(1, 0, 2), 3);
        b.is("of all the memory", b.x.region(1, 0, 1), 8192);
        b.is("channels", b.x.about(6), 3);
        b.is("windows", b.x.about(7), 2);
        b.is("from input", b.x.about(8), 1);
        b.is("to output", b.x.about(9), 2);
        b.is("goals", b.x.channel(0, 5), 2);
        b.is("depth", b.x.channel(1, 2), 32);
        b.is("limit", b.x.channel(2, 2), 100000);
    }

    private static void words(Bench b) {
        b.faulty(2, "^A");
        b.faulty(2, "partition ^\t");
        b.faulty(2, "partition ^\u00e9");
        b.faulty(2, "partition a { memory 256; event e^-f;");
        b.faulty(2, "partition ^abcdefghijklm {");
        b.fine("partition abcdefghijkl { memory 256; } frame { abcdefghijkl 1; }");
        b.faulty(2, "partition a { memory ^0000256;");
        b.fine("partition a { memory 000256; }" + F);
        b.faulty(1, "partition ^12abc {");
        b.faulty(1, "partition a ^b");
        b.faulty(1, "partition a{memory 256;process p{entry 0;^priority1");
        b.fine("partition a{memory 256;process p{entry 0;priority 1;}}frame{a 1;}");
        b.faulty(1, "partition a { memory 256^abc");
        b.faulty(1, "partition ^memory");
        b.fine("partition late { memory 256; event illegal; event raised; event align; event skip; event stop;"
                + " event warm; event cold; event handle; } frame { late 1; }");
        b.fine("partition memories { memory 256; } frame { memories 1; }");
        for (String word : ("partition memory regions code data table all process entry priority period deadline"
                + " delay handler stopped semaphore event buffer fifo board port in out errors channel sampling"
                + " queuing input output frame").split(" ")) {
            b.faulty(1, A + "event ^" + word + ";");
        }
    }

    private static void heads(Bench b) {
        b.faulty(1, "^");
        b.faulty(1, " \n ^");
        b.faulty(1, "^x");
        b.faulty(1, "^frame { a 1; }");
        b.faulty(1, "partition^");
        b.faulty(1, "partition a { ^event e;");
        b.faulty(5, "partition a { memory ^0;");
        b.faulty(5, "partition a { memory ^255;");
        b.faulty(5, "partition a { memory ^300 A");
        b.faulty(5, "partition a { memory ^8448;");
        b.faulty(1, "partition a { memory 256 ^}");
        b.faulty(3, "partition a { memory 256; } partition ^a");
        b.faulty(1, "partition a { memory 256; } ^b");
        b.faulty(1, "partition a { memory 256; }^");
        b.faulty(1, "partition a { memory 256; ^; }");
        b.faulty(1, "partition a { memory 256; ^12");
        b.faulty(1, "partition a { memory 256; ^a");
        b.faulty(1, A + "} channel sampling 0 { input > output } ^partition b");
    }

    private static void regions(Bench b) {
        b.faulty(1, A + "regions { ^}");
        b.faulty(5, A + "regions { ^0 code;");
        b.faulty(5, A + "regions { ^32 code;");
        b.faulty(5, A + "regions { ^96 code;");
        b.faulty(5, A + "regions { ^320 code;");
        b.faulty(5, A + "regions { 256 all; ^64 code;");
        b.faulty(7, A + "^regions { 64 code; 128 data; }");
        b.faulty(1, A + "regions { 64 code; 128 data;^");
        b.faulty(1, A + "regions { 256 ^event");
        b.faulty(1, A + "regions { 256 ^;");
        b.faulty(1, A + "regions { 256 ^4");
        b.faulty(1, A + "event e; ^regions { 256 all; }");
        b.faulty(1, A + "regions { 256 all; } ^regions");
        b.faulty(4, "partition a { memory 512; regions { 64 all; 64 all; 64 all; 64 all; 64 all; 64 all; ^64");
        b.faulty(4, "partition a { memory 512; regions { 64 all; 64 all; 64 all; 64 all; 64 all; 64 all; ^event");
        b.faulty(4, "partition a { memory 512; regions { 64 all; 64 all; 64 all; 64 all; 64 all; 64 all; ^");
        b.faulty(7, "partition a { memory 512; ^regions { 64 all; 64 all; 64 all; 64 all; 64 all; 64 all; }");
        b.fine("partition a { memory 512; regions { 64 all; 64 all; 64 all; 64 all; 64 all; 192 all; } }" + F);
    }

    private static void processes(Bench b) {
        b.faulty(5, A + "process p { entry ^2;");
        b.faulty(5, A + "process p { entry ^256;");
        b.faulty(1, A + "process p { ^priority");
        b.faulty(5, A + "process p { entry 0; priority ^16;");
        b.faulty(1, A + "process p { entry 0; ^}");
        b.faulty(5, A + "process p { entry 0; priority 1; period ^0;");
        b.faulty(5, A + "process p { entry 0; priority 1; period ^100001;");
        b.faulty(5, A + "process p { entry 0; priority 1; deadline ^0;");
        b.faulty(5, A + "process p { entry 0; priority 1; deadline ^100001;");
        b.faulty(5, A + "process p { entry 0; priority 1; delay ^0;");
        b.faulty(5, A + "process p { entry 0; priority 1; delay ^100001;");
        b.faulty(1, A + "process p { entry 0; priority 1; deadline 4; ^period 3;");
        b.faulty(1, A + "process p { entry 0; priority 1; delay 4; ^deadline 3;");
        b.faulty(1, A + "process p { entry 0; priority 1; stopped; ^handler;");
        b.faulty(1, A + "process p { entry 0; priority 1; stopped; ^stopped;");
        b.faulty(1, A + "process p { entry 0; priority 1; handler ^}");
        b.faulty(1, A + "process p { entry 0; priority 1; } ^;");
        b.faulty(7, A + "process p { entry 0; priority 1; handler; } process q { entry 0; priority 1; ^handler;");
        b.faulty(3, A + "process p { entry 0; priority 1; } event ^p;");
        b.faulty(3, A + "event p; process ^p");
        b.fine(A + "process a { entry 252; priority 1; period 1; delay 100000; stopped; } }" + F);
    }

    private static void things(Bench b) {
        b.faulty(5, A + "semaphore s ^101 : 100;");
        b.faulty(5, A + "semaphore s 0 : ^0;");
        b.faulty(5, A + "semaphore s 3 : ^2;");
        b.faulty(5, A + "semaphore s 3 : ^101;");
        b.faulty(1, A + "semaphore s 3 ^;");
        b.faulty(1, A + "semaphore s 3 ^fifo");
        b.faulty(1, A + "semaphore s 3 : 3 fifo ^fifo");
        b.faulty(1, A + "event e ^fifo;");
        b.faulty(5, A + "buffer b ^0;");
        b.faulty(5, A + "buffer b ^17;");
        b.faulty(1, A + "buffer b ^;");
        b.faulty(1, A + "board b ^1;");
        b.faulty(1, A + "port p ^sampling");
        b.faulty(1, A + "port p in ^out");
        b.faulty(1, A + "port p in sampling ^fifo;");
        b.faulty(3, A + "event e; board ^e;");
        b.faulty(3, A + "port e in sampling; semaphore ^e");
        b.fine(A + "event e; board f; } partition b { memory 256; event e; board f; event a; event b; }" + F);
    }

    private static void errors(Bench b) {
        b.faulty(1, A + "errors { ^}");
        b.faulty(1, A + "errors { ^process");
        b.faulty(1, A + "errors { ^skip");
        b.faulty(1, A + "errors { late ^skip");
        b.faulty(1, A + "errors { late : ^late");
        b.faulty(1, A + "errors { late : ^memory");
        b.faulty(1, A + "errors { late : ^35");
        b.faulty(1, A + "errors { ^30 : skip");
        b.faulty(7, A + "errors { late : skip; memory : stop; ^late : stop;");
        b.faulty(7, A + "errors { illegal : skip; memory : skip; late : skip; raised : skip; align : skip; ^align");
        b.faulty(1, A + "errors { illegal : skip; memory : skip; late : skip; raised : skip; align : skip; ^x");
        b.faulty(7, A + "errors { memory : skip; } ^errors");
        b.faulty(7, A + "errors { late : stop; raised : ^handle; memory : handle; } }");
        b.faulty(1, A + "errors { late : handle; }^");
        b.fine(A + "errors { late : handle; } process h { entry 0; priority 1; handler; } }" + F);
        b.faulty(7, A + "process h { entry 0; priority 1; handler; } } partition b { memory 256;"
                + " errors { late : ^handle; } }");
    }

    private static void channels(Bench b) {
        String ports = A + "port o out sampling; port i in sampling; port p out queuing; port j in queuing; event e; } ";
        b.faulty(1, A + "} channel ^0");
        b.faulty(5, A + "} channel sampling ^100001");
        b.faulty(5, A + "} channel queuing ^0");
        b.faulty(5, A + "} channel queuing ^33");
        b.faulty(1, A + "} channel sampling 1 ^fifo");
        b.faulty(1, A + "} channel queuing ^fifo 1");
        b.faulty(1, A + "} channel queuing 9^");
        b.faulty(1, A + "} channel sampling 0 { ^output");
        b.faulty(1, A + "} channel sampling 0 { input > ^input");
        b.faulty(6, A + "} channel sampling 0 { ^b.o");
        b.faulty(6, A + "} channel sampling 0 { a.^o");
        b.faulty(6, ports + "channel sampling 0 { a.^e");
        b.faulty(7, ports + "channel sampling 0 { a.^i");
        b.faulty(7, ports + "channel sampling 0 { a.^p");
        b.faulty(7, ports + "channel queuing 1 { a.^o");
        b.faulty(7, ports + "channel sampling 0 { a.o > a.^o");
        b.faulty(7, ports + "channel sampling 0 { a.o > a.^j");
        b.faulty(7, ports + "channel sampling 0 { a.o > a.i, a.^i");
        b.faulty(7, ports + "channel sampling 0 { a.o > output } channel sampling 0 { a.^o");
        b.faulty(1, ports + "channel sampling 0 { a ^o");
        b.faulty(1, ports + "channel sampling 0 { a.o ^,");
        b.faulty(1, ports + "channel sampling 0 { a.o > a.^1");
        b.faulty(1, ports + "channel sampling 0 { a.o > a.i, ^}");
        b.faulty(1, ports + "channel queuing 3 { a.p > a.j ^,");
        b.faulty(1, ports + "channel queuing 3 { a.p > ^}");
        b.fine(ports + "channel queuing 3 fifo { a.p > a.j } channel sampling 5 { a.o > a.i, output }" + F);
    }

    private static void goals(Bench b) {
        String four = A + "} channel sampling 0 { input > output, output, output, output";
        b.faulty(4, four + ", ^output");
        b.faulty(4, four + ", ^}");
        b.faulty(4, four + ", ^");
        b.faulty(2, four + ", ^!");
        b.faulty(1, four + " ^output");
        b.fine(four + " }" + F);
        b.is("four goals", b.x.channel(0, 5), 4);
        b.is("one channel to output", b.x.about(9), 1);
    }

    private static void frames(Bench b) {
        b.faulty(1, A + "} frame { ^}");
        b.faulty(6, A + "} frame { ^b 1;");
        b.faulty(5, A + "} frame { a ^0;");
        b.faulty(5, A + "} frame { a ^201;");
        b.faulty(1, A + "} frame { a ^;");
        b.faulty(1, A + "} frame { a 1; } ^frame");
        b.faulty(2, A + "} frame { a 1; } ^?");
        b.faulty(1, A + "} frame { a 1;^");
        b.faulty(4, A + "} frame { " + Bench.times(24, "a 1; ") + "^a 1;");
        b.faulty(4, A + "} frame { " + Bench.times(24, "a 1; ") + "^;");
        b.faulty(4, A + "} frame { " + Bench.times(24, "a 1; ") + "^");
        b.fine(A + "} frame { " + Bench.times(24, "a 200; ") + "}");
        b.is("24 windows", b.x.about(7), 24);
    }

    private static void tooMany(Bench b) {
        String sixteen = Bench.times(16, "partition a# { memory 256; } ");
        b.faulty(4, sixteen + "partition ^b");
        b.faulty(4, sixteen + "partition ^a0");
        b.faulty(4, sixteen + "partition ^{");
        b.faulty(4, sixteen + "partition ^");
        b.faulty(2, sixteen + "partition ^%");
        b.fine(sixteen + "frame { a15 1; }");
        b.faulty(4, A + Bench.times(16, "process p# { entry 0; priority 1; } ") + "process ^q");
        b.faulty(4, A + Bench.times(16, "port p# in sampling; ") + "port ^p0");
        b.faulty(4, A + Bench.times(8, "semaphore s# 0 : 1; ") + "semaphore ^5");
        b.faulty(4, A + Bench.times(8, "event e#; ") + "event ^");
        b.faulty(4, A + Bench.times(8, "buffer e# 1; ") + "buffer ^;");
        b.faulty(4, A + Bench.times(8, "board e#; ") + "board ^e");
        b.faulty(1, A + Bench.times(7, "board e#; ") + "board ^;");
        b.fine(A + Bench.times(8, "event e#; board b#; buffer u# 1; semaphore s# 1 : 1; ")
                + Bench.times(16, "process p# { entry 0; priority 1; } port o# in sampling; ") + "}" + F);
        String all = A + "} " + Bench.times(24, "channel sampling 0 { input > output } ");
        b.faulty(4, all + "^channel queuing");
        b.fine(all + F);
        b.is("24 from input", b.x.about(8), 24);
    }

    private static void anew(Bench b) {
        b.fresh();
        b.load(A + "process p { entry 0; priority 9; } event e; } channel sampling 3 { input > output }" + F);
        b.x.image(0, 0, 5);
        b.x.input(0, 1, 2);
        b.x.begin();
        b.x.run(3);
        b.is("errors", b.x.about(1), 3);
        b.is("trace", b.x.about(4), 1);
        b.load(A + "process p { entry 0; priority 9; } event e; } channel sampling 3 { input > output }" + F);
        b.is("time", b.x.about(0), 0);
        b.is("no errors", b.x.about(1), 0);
        b.is("no error", b.x.error(0, 0), -1);
        b.is("no instructions", b.x.about(2), 0);
        b.is("no trace", b.x.about(4), 0);
        b.is("no trace kept", b.x.trace(0, 0), -1);
        b.is("image", b.x.peek(0, 0), 0);
        b.is("word of the channel", b.x.channel(0, 1), 0);
        b.is("its time", b.x.channel(0, 3), -1);
        b.isState("as new", 0, 0, 0, 0, 9, -1, -1, 0, 0, 0, 0);
        b.refuses("it has not begun", IllegalStateException.class, () -> b.x.run(0));
        b.x.input(0, 0, 7);
        b.x.begin();
        b.x.run(1);
        b.isTrace("only the new input", 0, 0, 0, 7);
        b.is("once", b.x.about(4), 1);
        b.refuses("a fault", IllegalArgumentException.class, () -> b.load("partition"));
        b.is("no partitions", b.x.about(5), 0);
        b.is("no channels", b.x.about(6), 0);
        b.is("no windows", b.x.about(7), 0);
        b.is("no inputs", b.x.about(8), 0);
        b.is("no outputs", b.x.about(9), 0);
        b.is("no state", b.x.state(0, 0, 0), -1);
        b.is("no channel", b.x.channel(0, 0), -1);
        b.refuses("no run", IllegalStateException.class, () -> b.x.run(1));
        b.refuses("no begin", IllegalStateException.class, () -> b.x.begin());
        b.refuses("no image", IllegalStateException.class, () -> b.x.image(0, 0, 0));
        b.refuses("no input", IllegalStateException.class, () -> b.x.input(0, 0, 0));
        b.is("a fault", b.x.fault(0), 1);
        b.load(A + "}" + F);
        b.is("no fault any more", b.x.fault(0), 0);
        b.is("nor a place", b.x.fault(1), -1);
        // what an earlier, longer text left behind is not read
        b.refuses("letters", IllegalArgumentException.class, () -> b.load("zzzzzzzzzzzzzzzzzzzzzzzzzzzz"));
        b.refuses("a word at the end", IllegalArgumentException.class, () -> b.load("partition"));
        b.is("the end is missed", b.x.fault(1), 9);
        b.refuses("digits", IllegalArgumentException.class, () -> b.load("0000000000000000000000000000"));
        b.refuses("a number at the end", IllegalArgumentException.class, () -> b.load("partition a { memory 512"));
        b.is("the end is missed", b.x.fault(1), 24);
        b.refuses("spaces", IllegalArgumentException.class, () -> b.load("                            "));
        b.refuses("the end", IllegalArgumentException.class, () -> b.load("partition a { memory 512"));
        b.is("is where the text ends", b.x.fault(1), 24);
    }
}
