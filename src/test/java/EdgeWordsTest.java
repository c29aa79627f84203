/** Edges of the term CONFIGURATION: its words, and in which order they stand. Above each test stands its sentence. */
public final class EdgeWordsTest {
    private static final String A = "partition a { memory 256; ";
    private static final String F = " frame { a 1; }";
    private static final String WORDS = "partition memory regions code data table all process entry priority period deadline"
            + " delay handler stopped semaphore event buffer fifo board port in out errors channel sampling queuing input"
            + " output frame";

    public static void main(String[] args) {
        Bench b = new Bench();
        namesByTheirLength(b);
        namesByTheirLetters(b);
        namesToldApart(b);
        numbersByTheirDigits(b);
        signs(b);
        wordsAreNoNames(b);
        longerThanWords(b);
        everyByte(b);
        whereSpacesMustStand(b);
        whereSpacesMayStand(b);
        orderOfParts(b);
        orderInAProcess(b);
        regionsAhead(b);
        withoutRegions(b);
        thingsInAnyOrder(b);
        noThingsAtAll(b);
        fifoWhereItMayStand(b);
        portsOfTwoWords(b);
        kindsInAnyOrder(b);
        kindsAreNames(b);
        inputAndOutput(b);
        b.finish();
    }

    // CONFIGURATION: "names: a letter a .. z, then letters a .. z and digits, at most 12 in all"
    private static void namesByTheirLength(Bench b) {
        String[] names = {"b", "z", "b1", "abcdefghijkl", "a12345678901", "zzzzzzzzzzzz", "z99999999999"};
        for (String name : names) {
            b.fine("partition " + name + " { memory 256; event " + name + "; } frame { " + name + " 1; }");
        }
        b.faulty(2, "partition ^abcdefghijklm {");
        b.faulty(2, "partition ^a123456789012 {");
        b.faulty(2, A + "event ^zzzzzzzzzzzzz;");
        b.faulty(2, A + "event ^" + "a".repeat(100) + ";");
        b.faulty(2, A + "event ^" + "a".repeat(100));
        b.faulty(2, A + "} frame { ^abcdefghijklm");
        b.faulty(1, "partition abcdefghijkl ^m");
    }

    // CONFIGURATION: "names: a letter a .. z, then letters a .. z and digits, at most 12 in all"
    private static void namesByTheirLetters(Bench b) {
        for (char c = 'a'; c <= 'z'; c++) {
            b.fine("partition " + c + c + " { memory 256; } frame { " + c + c + " 1; }");
        }
        for (char c = '0'; c <= '9'; c++) {
            b.fine("partition a" + c + " { memory 256; } frame { a" + c + " 1; }");
            b.faulty(1, "partition ^" + c + "a");
        }
        b.faulty(2, "partition a^`");
        b.faulty(2, "partition a^A");
        b.faulty(2, "partition a^/");
        b.faulty(2, "partition a^_b");
        b.faulty(1, "partition a^:");
    }

    // CONFIGURATION: "names: a letter a .. z, then letters a .. z and digits, at most 12 in all" One letter more or another one
    // is another name.
    private static void namesToldApart(Bench b) {
        String letters = "abcdefghijklmnopqrstuvwxyz0123456789";
        StringBuilder things = new StringBuilder();
        String[] sorts = {"process # { entry 0; priority 1; } ", "port # in sampling; ", "event #; ", "board #; ", "buffer # 1; ",
            "semaphore # 0 : 1; "};
        int[] most = {16, 16, 8, 8, 8, 8};
        String[] names = new String[62];
        for (int i = 0; i < 62; i++) {
            names[i] = i < 26 ? letters.substring(i, i + 1) : "a" + letters.charAt(i - 26);
        }
        int next = 0;
        for (int sort = 0; sort < 6; sort++) {
            for (int k = 0; k < most[sort] && next < 62; k++) {
                things.append(sorts[sort].replace("#", names[next]));
                next++;
            }
        }
        b.fine(A + things + "}" + F);
        b.is("all of them", next, 62);
        b.is("the last one", b.x.partition(0, 3), 6);
        for (String name : names) {
            b.faulty(3, A + "event " + name + "; event ^" + name + ";");
        }
        b.fine(A + "event abcdefghijkl; event abcdefghijkm; event abcdefghijk; event bbcdefghijkl; event abcdef; }" + F);
        b.fine(A + "event zzzzzzzzzzzz; event z99999999999; event zzzzzzzzzzz9; event z9zzzzzzzzzz; event a00000000000; }" + F);
    }

    // CONFIGURATION: "numbers of 1 to 6 digits"
    private static void numbersByTheirDigits(Bench b) {
        b.fine(A + "process p { entry 0; priority 000015; period 100000; deadline 000001; } }" + F);
        b.is("six digits", b.x.state(0, 0, 2), 15);
        b.fine("partition a { memory 000256; }" + F);
        b.faulty(2, "partition a { memory ^0000256; }" + F);
        b.faulty(2, A + "process p { entry ^0000000;");
        b.faulty(2, A + "process p { entry 0; priority 1; period ^1000000;");
        b.faulty(2, A + "process p { entry 0; priority 1; period ^" + "9".repeat(60));
        b.faulty(5, A + "process p { entry 0; priority 1; period ^999999;");
        b.faulty(1, A + "process p { entry ^;");
    }

    // CONFIGURATION: "signs { } ; : . , >"
    private static void signs(Bench b) {
        for (char sign : "{};:.,>".toCharArray()) {
            b.faulty(1, "partition ^" + sign);
        }
        for (char none : "()[]<=+-*/|~!?@#$%&'\"\\_".toCharArray()) {
            b.faulty(2, "partition ^" + none);
        }
    }

    // CONFIGURATION: "the words partition memory regions" .. "which are no names."
    private static void wordsAreNoNames(Bench b) {
        for (String word : WORDS.split(" ")) {
            b.faulty(1, "partition ^" + word + " {");
            b.faulty(1, A + "board ^" + word + ";");
            b.faulty(1, A + "} frame { ^" + word + " 1; }");
            if (!word.equals("input")) {
                b.faulty(1, A + "} channel sampling 0 { ^" + word + ".o");
            }
            b.faulty(1, A + "} channel sampling 0 { a.^" + word + " >");
        }
    }

    // CONFIGURATION: "the words partition memory regions" .. "which are no names." One letter more or fewer is one.
    private static void longerThanWords(Bench b) {
        for (String word : WORDS.split(" ")) {
            b.fine("partition " + word + "x { memory 256; } frame { " + word + "x 1; }");
            b.fine("partition x" + word + " { memory 256; } frame { x" + word + " 1; }");
            String shorter = word.substring(0, word.length() - 1);
            b.fine("partition " + shorter + " { memory 256; } frame { " + shorter + " 1; }");
        }
    }

    // CONFIGURATION: "Spaces and line ends (32, 10) stand between words where they must (12abc is 12 and abc); any other byte
    // is a word that is none."
    private static void everyByte(Bench b) {
        for (int c = 0; c < 256; c++) {
            if (c == 32 || c == 10) {
                b.faulty(1, "partition " + (char) c + "^");
            } else if (c >= 'a' && c <= 'z') {
                b.faulty(1, "partition " + (char) c + "^");
            } else {
                boolean word = c >= '0' && c <= '9' || "{};:.,>".indexOf(c) >= 0;
                b.faulty(word ? 1 : 2, "partition ^" + (char) c);
            }
        }
    }

    // CONFIGURATION: "Spaces and line ends (32, 10) stand between words where they must (12abc is 12 and abc)"
    private static void whereSpacesMustStand(Bench b) {
        b.faulty(1, "^partitiona{memory 256;}");
        b.faulty(1, "partition a{^memory256;}");
        b.faulty(5, "partition a{memory ^2 56;}");
        b.faulty(1, "partition a{memory 256 ^6;}");
        b.faulty(6, A + "}frame{^a1;}");
        b.faulty(1, A + "^eventx;");
    }

    // CONFIGURATION: "Spaces and line ends (32, 10) stand between words where they must (12abc is 12 and abc)"
    private static void whereSpacesMayStand(Bench b) {
        b.fine("partition a{memory 256;regions{64code;192all;}semaphore s 0:1fifo;buffer b 1fifo;}"
                + "channel queuing 1fifo{input>output}frame{a 1;}");
        b.is("two regions", b.x.partition(0, 12), 2);
        b.fine("\n\n  partition\n\n a \n{\nmemory\n256\n;\n}\nframe\n{ a\n\n1 ; } \n \n");
        b.fine("partition a { memory 256 ; } frame { a 1 ; }\n");
        b.faulty(1, "partition ^12abc {");
        b.faulty(1, "partition a { memory 256^abc;");
    }

    // CONFIGURATION: "PARTITIONS (1 to 16), then CHANNELS (none to 24), then the FRAME"
    private static void orderOfParts(Bench b) {
        b.faulty(1, "^frame { a 1; }");
        b.faulty(1, "^channel sampling 0 { input > output }");
        b.faulty(1, A + "} channel sampling 0 { input > output } ^partition b { memory 256; }" + F);
        b.faulty(1, A + "}" + F + " ^partition b { memory 256; }");
        b.faulty(1, A + "}" + F + " ^channel sampling 0 { input > output }");
        b.faulty(1, A + "}" + F + " ^frame { a 1; }");
        b.faulty(1, A + "}" + F + "^;");
        b.faulty(1, A + "} ^");
        b.faulty(1, A + "} channel sampling 0 { input > output } ^");
        b.fine(A + "}" + F);
        b.is("no channels", b.x.about(6), 0);
        b.is("one partition", b.x.about(5), 1);
    }

    // CONFIGURATION: "entry N ; priority N ; and then, each perhaps, in this order: period N ; deadline N ; delay N ; handler ;
    // stopped ;"
    private static void orderInAProcess(Bench b) {
        String[] parts = {"period 9; ", "deadline 8; ", "delay 7; ", "handler; ", "stopped; "};
        for (int some = 0; some < 32; some++) {
            StringBuilder text = new StringBuilder(A + "process p { entry 0; priority 1; ");
            for (int i = 0; i < 5; i++) {
                text.append((some >> i & 1) != 0 ? parts[i] : "");
            }
            b.fine(text + "} }" + F);
            b.is("handler", b.x.state(0, 0, 7), some >> 3 & 1);
            b.x.begin();
            boolean begins = (some & 24) == 0;
            int release = (some & 4) != 0 ? 7 : 0;
            b.is("release", b.x.state(0, 0, 6), begins ? release : 0);
            b.is("due", b.x.state(0, 0, 3), begins && (some & 2) != 0 ? release + 8 : -1);
            b.is("state", b.x.state(0, 0, 0), !begins ? 0 : release > 0 ? 2 : 1);
        }
        for (int i = 0; i < 5; i++) {
            for (int j = 0; j <= i; j++) {
                b.faulty(1, A + "process p { entry 0; priority 1; " + parts[i] + "^" + parts[j]);
            }
        }
        b.faulty(1, A + "process p { ^priority 1; entry 0;");
        b.faulty(1, A + "process p { entry 0; ^period 1;");
        b.faulty(1, A + "process p { ^}");
    }

    // CONFIGURATION: "REGIONS, perhaps: regions { N SORT ; .. } , one to 6, one behind the other from place 0 on"
    private static void regionsAhead(Bench b) {
        b.faulty(1, A + "event e; ^regions { 256 all; }");
        b.faulty(1, A + "regions { 256 all; } ^regions { 256 all; }");
        b.faulty(1, "partition a { ^regions { 256 all; }");
        b.fine("partition a { memory 512; regions { 64 code; 128 data; 64 table; 256 all; } }" + F);
        int[][] wants = {{0, 64, 0}, {64, 128, 1}, {192, 64, 2}, {256, 256, 3}};
        for (int k = 0; k < 4; k++) {
            for (int what = 0; what < 3; what++) {
                b.is("region " + k, b.x.region(0, k, what), wants[k][what]);
            }
        }
    }

    // CONFIGURATION: "SORT code, data, table or all (without them: one of all)."
    private static void withoutRegions(Bench b) {
        int[] sizes = {256, 8192};
        for (int size : sizes) {
            b.fine("partition a { memory " + size + "; }" + F);
            b.is("one", b.x.partition(0, 12), 1);
            b.is("from 0 on", b.x.region(0, 0, 0), 0);
            b.is("all the memory", b.x.region(0, 0, 1), size);
            b.is("of all", b.x.region(0, 0, 2), 3);
        }
        String[] others = {"process", "fifo", "x", "1", "3", "4", "5", "6", ";", "}"};
        for (String other : others) {
            b.faulty(1, A + "regions { 256 ^" + other);
        }
    }

    // CONFIGURATION: "THINGS, in any order"
    private static void thingsInAnyOrder(Bench b) {
        String[] things = {"process p { entry 0; priority 1; } ", "semaphore s 1 : 1; ", "event e; ", "buffer u 1; ",
            "board o; ", "port i in sampling; ", "errors { late : skip; } "};
        for (int first = 0; first < 7; first++) {
            StringBuilder text = new StringBuilder(A);
            StringBuilder back = new StringBuilder(A);
            for (int i = 0; i < 7; i++) {
                text.append(things[(first + i) % 7]);
                back.append(things[(first + 7 - i) % 7]);
            }
            b.fine(text + "}" + F);
            b.fine(back + "}" + F);
            for (int sort = 2; sort < 8; sort++) {
                b.is("one of each", b.x.partition(0, sort), 1);
            }
        }
    }

    // CONFIGURATION: "partition NAME { memory N ; REGIONS THINGS }" with neither
    private static void noThingsAtAll(Bench b) {
        b.fine("partition a { memory 256; }" + F);
        for (int sort = 2; sort < 8; sort++) {
            b.is("none", b.x.partition(0, sort), 0);
        }
        b.x.begin();
        b.is("nothing is done", b.x.run(500), 0);
        b.is("time goes on", b.x.about(0), 500);
    }

    // CONFIGURATION: "(Ahead of the ; of a semaphore or buffer there may be fifo .)"
    private static void fifoWhereItMayStand(Bench b) {
        b.fine(A + "semaphore s 0 : 1 fifo; buffer u 1 fifo; }" + F);
        b.faulty(1, A + "semaphore s ^fifo 0 : 1;");
        b.faulty(1, A + "semaphore s 0 ^fifo : 1;");
        b.faulty(1, A + "semaphore s 0 : 1 fifo ^fifo;");
        b.faulty(1, A + "semaphore s 0 : 1; ^fifo;");
        b.faulty(1, A + "buffer u ^fifo 1;");
        b.faulty(1, A + "buffer u 1 fifo ^fifo;");
        b.faulty(1, A + "event e ^fifo;");
        b.faulty(1, A + "board o ^fifo;");
        b.faulty(1, A + "port i in queuing ^fifo;");
    }

    // CONFIGURATION: "port NAME, the word in or out, the word sampling or queuing, ; (no other sign between)."
    private static void portsOfTwoWords(Bench b) {
        b.fine(A + "port i in sampling; port j in queuing; port k out sampling; port l out queuing; }" + F);
        b.faulty(1, A + "port i^, in sampling;");
        b.faulty(1, A + "port i in^, sampling;");
        b.faulty(1, A + "port i ^sampling in;");
        b.faulty(1, A + "port i in ^;");
        b.faulty(1, A + "port i ^;");
        b.faulty(1, A + "port ^in sampling;");
        b.faulty(1, A + "port i ^input sampling;");
    }

    // CONFIGURATION: "errors { KIND : ACTION ; .. } (one KIND at least) at most once, with KIND illegal, memory, late, raised
    // or align (each at most once, in any order), ACTION skip, stop, again, warm, cold, idle or handle"
    private static void kindsInAnyOrder(Bench b) {
        String[] kinds = {"illegal", "memory", "late", "raised", "align"};
        String[] actions = {"skip", "stop", "again", "warm", "cold", "idle", "handle"};
        String h = "process h { entry 0; priority 1; handler; } ";
        for (int first = 0; first < 5; first++) {
            StringBuilder text = new StringBuilder(A + h + "errors { ");
            for (int n = 0; n < 5; n++) {
                text.append(kinds[(first + n) % 5]).append(" : ").append(actions[(first + n) % 7]).append("; ");
                b.fine(text + "} }" + F);
                b.faulty(7, text + "^" + kinds[first] + " : skip;");
            }
            b.faulty(1, text + "^skip : skip;");
        }
        for (String action : actions) {
            b.fine(A + h + "errors { late : " + action + "; } }" + F);
        }
        b.faulty(1, A + "errors { ^}");
        b.faulty(1, A + "errors { late : ^;");
        b.faulty(1, A + "errors { late : ^late;");
        b.faulty(1, A + "errors { ^x : skip;");
        b.faulty(7, A + "errors { late : skip; } event e; ^errors { align : skip; }");
    }

    // CONFIGURATION: "(these and illegal, late, raised, align are names as others elsewhere)"
    private static void kindsAreNames(Bench b) {
        String[] names = {"skip", "stop", "again", "warm", "cold", "idle", "handle", "illegal", "late", "raised", "align"};
        for (String name : names) {
            b.fine("partition " + name + " { memory 256; process " + name + " { entry 0; priority 1; } } frame { " + name
                    + " 1; }");
            b.fine("partition " + name + " { memory 256; port " + name + " out sampling; } channel sampling 0 { " + name + "."
                    + name + " > output } frame { " + name + " 1; }");
        }
        b.faulty(1, "partition ^memory {");
    }

    // CONFIGURATION: "SOURCE: NAME . NAME, an out port of a partition, or input; GOAL: NAME . NAME, an in port, or output."
    private static void inputAndOutput(Bench b) {
        b.fine(A + "} channel sampling 0 { input > output } channel queuing 1 { input > output }" + F);
        b.faulty(1, A + "} channel sampling 0 { ^output > output }");
        b.faulty(1, A + "} channel sampling 0 { input > ^input }");
        b.faulty(1, A + "} channel sampling 0 { input^. o > output }");
        b.faulty(1, A + "} channel sampling 0 { ^> output }");
        b.faulty(1, A + "port o out sampling; } channel sampling 0 { a ^> output }");
        b.faulty(1, A + "port o out sampling; } channel sampling 0 { a. ^> output }");
    }
}
