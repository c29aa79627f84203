/** Edges of the term CONFIGURATION: its FAULTS, with their places. Above each test stands the sentence that it is of. */
public final class EdgeFaultTest {
    private static final String A = "partition a { memory 256; ";
    private static final String F = " frame { a 1; }";
    private static final String P = "process p { entry 0; priority 1; ";
    private static final String SIXTEEN = Bench.times(16, "partition a# { memory 256; } ");
    private static final String SIX = "partition a { memory 512; regions { " + Bench.times(6, "64 all; ");
    private static final String FOUR = A + "} channel sampling 0 { input > output, output, output, output, ";
    private static final String WINDOWS = A + "} frame { " + Bench.times(24, "a 1; ");

    public static void main(String[] args) {
        Bench b = new Bench();
        theEndWhereMoreMust(b);
        whatCannotStandThere(b);
        wordsThatAreNone(b);
        namesAnew(b);
        oneMore(b);
        oneMoreWhateverStandsThere(b);
        theEndOfThem(b);
        numbersThatMayNotBe(b);
        namesThatAreNotThere(b);
        secondHandler(b);
        secondErrors(b);
        secondKind(b);
        regionsNotAll(b);
        portsInTheirChannels(b);
        inputAndOutputAreFine(b);
        handleWithoutAHandler(b);
        twoIsAheadOfAll(b);
        fourIsAheadOfOneAndThree(b);
        fourIsAheadOfOthers(b);
        theFirstThatIsMet(b);
        b.finish();
    }

    // FAULTS: "1 what can't stand there, or the end where more must (at it);" The end, behind each word of a text.
    private static void theEndWhereMoreMust(Bench b) {
        String text = "partition a { memory 512 ; regions { 256 code ; 256 all ; } process p { entry 0 ; priority 1 ; period 9 ;"
                + " deadline 8 ; delay 7 ; handler ; stopped ; } semaphore s 0 : 1 fifo ; event e ; buffer u 1 ; board o ;"
                + " port i in sampling ; port q out queuing ; errors { late : skip ; memory : handle ; } }"
                + " partition b { memory 256 ; } channel sampling 0 { input > a . i , output }"
                + " channel queuing 1 fifo { a . q > output } frame { a 1 ; b 2 ; }";
        String[] words = text.split(" ");
        StringBuilder ahead = new StringBuilder();
        b.faulty(1, "^");
        for (int i = 0; i < words.length - 1; i++) {
            ahead.append(words[i]);
            b.faulty(1, ahead + "^");
            ahead.append(' ');
            b.faulty(1, ahead + "\n ^");
        }
        b.fine(text);
    }

    // FAULTS: "1 what can't stand there, or the end where more must (at it);" What can't stand there.
    private static void whatCannotStandThere(Bench b) {
        String[] texts = {"^x", "^;", "^1", "partition ^partition", "partition a ^;", "partition a { ^256", "partition a { memory ^x",
            "partition a { memory 256 ^:", A + "^;", A + "^1", A + "^x", A + "^memory", A + "^frame", A + "process p ^;",
            A + "process p { ^1", A + "process p { entry ^p", A + "process p { entry 0 ^}", A + P + "^entry", A + P + "^;",
            A + P + "period ^;", A + P + "} ^;", A + "semaphore s ^:", A + "semaphore s 1 ^1", A + "semaphore s 1 : ^s",
            A + "semaphore s 1 : 1 ^:", A + "event e ^1", A + "event e ^}", A + "buffer u ^u", A + "board o ^o",
            A + "port i in ^in", A + "errors ^;", A + "errors { late ^;", A + "errors { late : skip ^}", A + "} ^}", A + "} ^a",
            A + "} channel ^input", A + "} channel sampling ^{", A + "} channel sampling 0 ^;", A + "} channel sampling 0 { ^1",
            A + "} channel sampling 0 { input ^.", A + "} channel sampling 0 { input > ^1", A + "} channel sampling 0 { input > output ^;",
            A + "} channel queuing 1 { input > output ^,", A + "} frame ^a", A + "} frame { ^1", A + "} frame { a ^a",
            A + "} frame { a 1 ^,", A + "} frame { a 1 ^}", A + "} frame { a 1; ^;", A + "} frame { a 1; } ^;"};
        for (String text : texts) {
            b.faulty(1, text);
        }
    }

    // FAULTS: "2 a word that is none, or too long (at its beginning);"
    private static void wordsThatAreNone(Bench b) {
        b.faulty(2, "^!");
        b.faulty(2, "partition a {^\t memory");
        b.faulty(2, "partition a {^\r");
        b.faulty(2, "partition ^abcdefghijklm");
        b.faulty(2, "partition a { memory ^1234567");
        b.faulty(2, A + "}" + F + "^\0");
        b.faulty(2, A + "}" + F + " ^abcdefghijklm");
        b.faulty(2, A + "}" + F + " ^1234567");
        b.faulty(1, A + "}" + F + " ^abcdefghijkl");
        b.faulty(1, A + "}" + F + " ^123456");
    }

    // FAULTS: "3 a NAME anew that is there (at it; of things in their partition, of partitions);"
    private static void namesAnew(Bench b) {
        b.faulty(3, A + "} partition ^a");
        b.faulty(3, A + "} partition b { memory 256; } partition ^a {");
        b.faulty(3, A + "event e; event f; event ^e");
        b.faulty(3, A + P + "} process ^p");
        b.faulty(3, A + Bench.times(7, "event e#; ") + "event ^e6");
        b.faulty(3, Bench.times(15, "partition a# { memory 256; } ") + "partition ^a14");
        b.fine(A + "event a; } partition e { memory 256; event a; }" + F);
    }

    // FAULTS: "4 one more than there may be (at its name, or what stands there; a channel at its word channel, a region, a
    // goal, a window at its first word, whatever stands there"
    private static void oneMore(Bench b) {
        b.faulty(4, SIXTEEN + "partition ^b");
        b.faulty(4, A + Bench.times(16, "process p# { entry 0; priority 1; } ") + "process ^q");
        b.faulty(4, A + Bench.times(16, "port p# in sampling; ") + "port ^q");
        b.faulty(4, A + Bench.times(8, "semaphore s# 0 : 1; ") + "semaphore ^q");
        b.faulty(4, A + Bench.times(8, "event e#; ") + "event ^q");
        b.faulty(4, A + Bench.times(8, "buffer u# 1; ") + "buffer ^q");
        b.faulty(4, A + Bench.times(8, "board o#; ") + "board ^q");
        b.faulty(4, A + "} " + Bench.times(24, "channel sampling 0 { input > output } ") + "^channel");
        b.faulty(4, SIX + "^64 all;");
        b.faulty(4, FOUR + "^output }");
        b.faulty(4, WINDOWS + "^a 1;");
    }

    // FAULTS: "4 one more than there may be (at its name, or what stands there; a channel at its word channel, a region, a
    // goal, a window at its first word, whatever stands there"
    private static void oneMoreWhateverStandsThere(Bench b) {
        String[] any = {"1", "x", "a", "{", "}", ";", ":", ".", ",", ">", "memory", "frame", "input", "all", "999999", ""};
        for (String word : any) {
            b.faulty(4, SIXTEEN + "partition ^" + word);
            b.faulty(4, A + Bench.times(16, "process p# { entry 0; priority 1; } ") + "process ^" + word);
            b.faulty(4, A + Bench.times(16, "port p# out queuing; ") + "port ^" + word);
            b.faulty(4, A + Bench.times(8, "semaphore s# 0 : 1; ") + "semaphore ^" + word);
            b.faulty(4, A + Bench.times(8, "event e#; ") + "event ^" + word);
            b.faulty(4, A + Bench.times(8, "buffer u# 1; ") + "buffer ^" + word);
            b.faulty(4, A + Bench.times(8, "board o#; ") + "board ^" + word);
            b.faulty(4, FOUR + "^" + word);
            if (!word.equals("}")) {
                b.faulty(4, SIX + "^" + word);
                b.faulty(4, WINDOWS + "^" + word);
            }
        }
    }

    // FAULTS: "whatever stands there, but the } that ends them, which a } behind a , does not);"
    private static void theEndOfThem(Bench b) {
        b.fine(WINDOWS + "}");
        b.fine("partition a { memory 512; regions { " + Bench.times(5, "64 all; ") + "192 all; } }" + F);
        b.faulty(7, SIX.replace("regions", "^regions") + "}");
        b.fine(A + "} channel sampling 0 { input > output, output, output, output }" + F);
        b.faulty(4, FOUR + "^}");
        b.faulty(1, A + "} channel sampling 0 { input > output, output, output, ^}");
        b.faulty(1, A + "} channel sampling 0 { input > output, output, output, output ^output");
    }

    // FAULTS: "5 a number that may not be (at it);"
    private static void numbersThatMayNotBe(Bench b) {
        b.faulty(5, "partition a { memory ^300; }");
        b.faulty(5, "partition a { memory ^300");
        b.faulty(5, "partition a { memory ^300abc");
        b.faulty(5, "partition a { memory ^000000");
        b.faulty(5, A + "regions { ^300 x");
        b.faulty(5, A + "} frame { a ^0 x");
    }

    // FAULTS: "6 a name that is not there, or of another sort (at it);"
    private static void namesThatAreNotThere(Bench b) {
        String things = P + "} semaphore s 0 : 1; event e; buffer u 1; board o; port i in sampling; } ";
        b.faulty(6, A + "} channel sampling 0 { ^b.o > output }");
        b.faulty(6, A + "} channel sampling 0 { a.^x > output }");
        b.faulty(6, A + "} channel sampling 0 { input > ^b.i }");
        b.faulty(6, A + "} channel sampling 0 { input > a.^x }");
        b.faulty(6, A + "} channel sampling 0 { ^b");
        b.faulty(6, A + "} channel sampling 0 { a.^a > output }");
        b.faulty(6, A + "} channel sampling 0 { input > output, ^b");
        String[] others = {"p", "s", "e", "u", "o"};
        for (String other : others) {
            b.faulty(6, A + things + "channel sampling 0 { a.^" + other + " > output }");
            b.faulty(6, A + things + "channel queuing 1 { input > a.^" + other + " }");
            b.faulty(6, A + things + "frame { ^" + other + " 1; }");
        }
        b.faulty(6, A + things + "partition b { memory 256; } channel sampling 0 { input > b.^i }");
        b.faulty(6, A + "} frame { ^b 1; }");
        b.faulty(6, A + "} frame { ^aa 1; }");
        b.faulty(6, A + "} frame { a 1; ^x");
    }

    // FAULTS: "7 a rule (at the word that is told): a second handler in a partition (at handler)"
    private static void secondHandler(Bench b) {
        b.faulty(7, A + P + "handler; } process q { entry 0; priority 1; ^handler; } }");
        b.faulty(7, A + P + "handler; } process q { entry 0; priority 1; delay 1; ^handler");
        b.fine(A + P + "handler; } process q { entry 0; priority 1; } } partition b { memory 256; " + P + "handler; } }" + F);
    }

    // FAULTS: "errors twice (at errors)"
    private static void secondErrors(Bench b) {
        b.faulty(7, A + "errors { late : skip; } ^errors { align : skip; }");
        b.faulty(7, A + "errors { late : skip; } event e; ^errors");
        b.fine(A + "errors { late : skip; } } partition b { memory 256; errors { late : skip; } }" + F);
    }

    // FAULTS: "a KIND twice (at it)"
    private static void secondKind(Bench b) {
        String[] kinds = {"illegal", "memory", "late", "raised", "align"};
        for (String kind : kinds) {
            b.faulty(7, A + "errors { " + kind + " : skip; ^" + kind + " : stop; } }");
            b.faulty(7, A + "errors { " + kind + " : skip; ^" + kind);
        }
    }

    // FAULTS: "regions that are not all the memory (at regions, when their } is at hand)"
    private static void regionsNotAll(Bench b) {
        b.faulty(7, A + "^regions { 64 all; }");
        b.faulty(7, A + "^regions { 64 all; 128 all; } x !");
        b.faulty(7, A + "^regions { 192 all; }");
        b.faulty(2, A + "regions { 64 all; ^!");
        b.faulty(1, A + "regions { 64 all; ^all");
        b.faulty(1, A + "regions { 64 all; ^");
        b.fine(A + "regions { 64 all; 192 all; } }" + F);
    }

    // FAULTS: "a port that lies the wrong way, is of the other sort (sampling, queuing), or is in a channel already (at its
    // name)"
    private static void portsInTheirChannels(Bench b) {
        String ports = A + "port o out sampling; port i in sampling; port p out queuing; port j in queuing; } ";
        b.faulty(7, ports + "channel sampling 0 { a.^i > output }");
        b.faulty(7, ports + "channel sampling 0 { input > a.^o }");
        b.faulty(7, ports + "channel queuing 1 { a.^j > output }");
        b.faulty(7, ports + "channel queuing 1 { input > a.^p }");
        b.faulty(7, ports + "channel sampling 0 { a.^p > output }");
        b.faulty(7, ports + "channel sampling 0 { input > a.^j }");
        b.faulty(7, ports + "channel queuing 1 { a.^o > output }");
        b.faulty(7, ports + "channel queuing 1 { input > a.^i }");
        b.faulty(7, ports + "channel sampling 0 { a.o > output } channel sampling 0 { a.^o");
        b.faulty(7, ports + "channel sampling 0 { input > a.i } channel sampling 0 { input > a.^i");
        b.faulty(7, ports + "channel sampling 0 { a.o > a.i, a.^i }");
        b.faulty(7, ports + "channel queuing 1 { a.p > a.j } channel queuing 1 { a.^p");
        b.faulty(7, ports + "channel queuing 1 { a.p > a.j } channel queuing 1 { input > a.^j");
        b.fine(ports + "channel sampling 0 { a.o > a.i } channel queuing 1 { a.p > a.j }" + F);
        b.fine(ports + "partition b { memory 256; port i in sampling; } channel sampling 0 { a.o > a.i, b.i }" + F);
    }

    // FAULTS: "input or output in queuing and sampling alike are fine"
    private static void inputAndOutputAreFine(Bench b) {
        b.fine(A + "} channel sampling 0 { input > output } channel queuing 1 { input > output }"
                + " channel sampling 0 { input > output, output } channel queuing 1 { input > output }" + F);
        b.is("four from input", b.x.about(8), 4);
        b.is("four to output", b.x.about(9), 4);
    }

    // FAULTS: "handle in a partition that has no handler (at handle, when the partition's } is at hand)."
    private static void handleWithoutAHandler(Bench b) {
        b.faulty(7, A + "errors { late : ^handle; } }");
        b.faulty(7, A + "errors { late : ^handle; memory : handle; } event e; }");
        b.faulty(7, A + "errors { late : skip; align : ^handle; } " + P + "} } !");
        b.faulty(1, A + "errors { late : handle; } ^x");
        b.faulty(1, A + "errors { late : handle; } ^");
        b.faulty(3, A + "errors { late : handle; } event e; event ^e");
        b.fine(A + "errors { late : handle; } " + P + "handler; } }" + F);
        b.fine(A + P + "handler; } errors { late : handle; } }" + F);
        b.faulty(7, A + P + "handler; } } partition b { memory 256; errors { late : ^handle; } }");
    }

    // FAULTS: "At one byte 2 is ahead of all, then 4, then 1, 3, then others."
    private static void twoIsAheadOfAll(Bench b) {
        String[] none = {"!", "abcdefghijklm", "1234567"};
        for (String word : none) {
            b.faulty(2, SIXTEEN + "partition ^" + word);
            b.faulty(2, A + Bench.times(8, "event e#; ") + "event ^" + word);
            b.faulty(2, SIX + "^" + word);
            b.faulty(2, FOUR + "^" + word);
            b.faulty(2, WINDOWS + "^" + word);
            b.faulty(2, "^" + word);
            b.faulty(2, "partition a { memory ^" + word);
            b.faulty(2, A + "} frame { ^" + word);
            b.faulty(2, A + "} channel sampling 0 { a.^" + word);
        }
    }

    // FAULTS: "At one byte 2 is ahead of all, then 4, then 1, 3, then others." 4 ahead of 1 and 3.
    private static void fourIsAheadOfOneAndThree(Bench b) {
        b.faulty(4, SIXTEEN + "partition ^;");
        b.faulty(4, SIXTEEN + "partition ^a0");
        b.faulty(4, A + Bench.times(8, "event e#; ") + "event ^frame");
        b.faulty(4, A + Bench.times(8, "event e#; ") + "event ^e0");
        b.faulty(4, A + Bench.times(16, "port p# in sampling; ") + "port ^p15");
        b.faulty(4, SIX + "^x");
        b.faulty(4, FOUR + "^input");
        b.faulty(4, WINDOWS + "^1");
    }

    // FAULTS: "At one byte 2 is ahead of all, then 4, then 1, 3, then others." 4 ahead of 5, 6 and 7.
    private static void fourIsAheadOfOthers(Bench b) {
        b.faulty(4, SIX + "^65 all;");
        b.faulty(4, FOUR + "^b.i }");
        b.faulty(4, WINDOWS + "^b 1;");
    }

    // FAULTS: "FAULTS, the first that is met, with its PLACE, a byte"
    private static void theFirstThatIsMet(Bench b) {
        b.faulty(5, "partition a { memory ^255; event e; event e; ! } frame { b 0; }");
        b.faulty(3, A + "event e; event ^e; ! } frame { b 0; }");
        b.faulty(6, A + "} frame { ^b 0; !");
        b.faulty(5, A + "} frame { a ^0; !");
        b.faulty(1, A + "event e ^e !");
        b.faulty(7, A + "errors { late : ^handle; } } partition a");
        b.faulty(7, A + P + "handler; } process q { entry 0; priority 1; ^handler !");
    }
}
