/** Edges of "What it is" and of promises 1, 2, 3 and 5. Above each test stands the sentence that it is of. */
public final class EdgeTextTest {
    private static final String SMALL = "partition a { memory 256; process p { entry 0; priority 1; } } frame { a 1; }";

    public static void main(String[] args) {
        Bench b = new Bench();
        lastOfAllCalls(b);
        none(b);
        newObject(b);
        eachOfTwentyBytes(b);
        bytesAtTheEndsOfTheirRange(b);
        zerosAtFirst(b);
        zerosBehindAnEnd(b);
        howManyCome(b);
        notSoMany(b);
        fullText(b);
        textThatFillsAll(b);
        textBehindALongerOne(b);
        faultAheadOfALoad(b);
        faultOfTheLatest(b);
        anotherWhat(b);
        b.finish();
    }

    private static String padded(String text) {
        return text + " ".repeat(4000 - text.length());
    }

    // What it is: "An object is used for at most 512 calls after it has been made; what later calls answer is free."
    private static void lastOfAllCalls(Bench b) {
        b.fresh();
        b.load(SMALL);
        b.x.image(0, 0, Bench.STAY);
        b.x.begin();
        int calls = 2 * ((SMALL.length() + 19) / 20) + 3;
        int runs = 0;
        for (; calls < 511; calls++) {
            b.is("call " + calls, b.x.run(500), 500);
            runs++;
        }
        b.is("the 512th call", b.x.about(0), 500 * runs);
    }

    // The public face: "public static final int NONE = -1;"
    private static void none(Bench b) {
        b.fresh();
        b.is("the constant", PartitionWorks.NONE, -1);
        b.is("what answers it", b.x.end(21), PartitionWorks.NONE);
    }

    // Promise 1: "No text in hand, no configuration."
    private static void newObject(Bench b) {
        b.fresh();
        b.is("no text", b.x.end(0), 0);
        for (int what = 5; what < 10; what++) {
            b.is("about " + what, b.x.about(what), 0);
        }
        b.refuses("nothing that could begin", IllegalStateException.class, () -> b.x.begin());
        b.refuses("nothing to load", IllegalArgumentException.class, () -> b.x.load());
        b.is("the end where more must", b.x.fault(0), 1);
        b.is("at it", b.x.fault(1), 0);
    }

    // Promise 2: "Puts twenty bytes ready, those of a first, the highest of each first."
    private static void eachOfTwentyBytes(Bench b) {
        for (int i = 0; i < 20; i++) {
            b.fresh();
            int[] words = {0x20202020, 0x20202020, 0x20202020, 0x20202020, 0x20202020};
            words[i / 4] ^= ('!' ^ ' ') << 24 - 8 * (i % 4);
            b.x.feed(-1, -1, -1, -1, -1);
            b.x.feed(words[0], words[1], words[2], words[3], words[4]);
            b.x.end(20);
            b.refuses("byte " + i, IllegalArgumentException.class, () -> b.x.load());
            b.is("a word that is none", b.x.fault(0), 2);
            b.is("where byte " + i + " came", b.x.fault(1), i);
        }
    }

    // Promise 2: "Puts twenty bytes ready, those of a first, the highest of each first." The ints may be any.
    private static void bytesAtTheEndsOfTheirRange(Bench b) {
        int[] words = {Integer.MIN_VALUE, -1, 0xff000000, 0x7fffffff, 0x80808080};
        for (int word : words) {
            b.fresh();
            b.x.feed(0x20202020, word, word, word, word);
            b.is("eight", b.x.end(8), 8);
            b.refuses("no word begins so", IllegalArgumentException.class, () -> b.x.load());
            b.is("a word that is none", b.x.fault(0), 2);
            b.is("the first of them", b.x.fault(1), 4);
        }
    }

    // Promise 2: "(They are 0 at first, and behind each end() that answers a number.)" At first.
    private static void zerosAtFirst(Bench b) {
        for (int n = 1; n <= 20; n += 19) {
            b.fresh();
            b.is("they come", b.x.end(n), n);
            b.refuses("zeros", IllegalArgumentException.class, () -> b.x.load());
            b.is("a word that is none", b.x.fault(0), 2);
            b.is("the first of them", b.x.fault(1), 0);
        }
    }

    // Promise 2: "(They are 0 at first, and behind each end() that answers a number.)" Behind an end().
    private static void zerosBehindAnEnd(Bench b) {
        for (int n = 0; n <= 20; n++) {
            b.fresh();
            b.x.feed(0x20202020, 0x20202020, 0x20202020, 0x20202020, 0x20202020);
            b.is("a number", b.x.end(n), n);
            b.is("one more", b.x.end(1), n + 1);
            b.refuses("a zero", IllegalArgumentException.class, () -> b.x.load());
            b.is("a word that is none", b.x.fault(0), 2);
            b.is("behind " + n, b.x.fault(1), n);
        }
        int[] wrong = {-1, 21, Integer.MIN_VALUE, Integer.MAX_VALUE};
        for (int n : wrong) {
            b.fresh();
            b.x.feed(0x78787878, 0, 0, 0, 0);
            b.is("no number", b.x.end(n), -1);
            b.x.end(4);
            b.refuses("they are still ready", IllegalArgumentException.class, () -> b.x.load());
            b.is("a name", b.x.fault(0), 1);
        }
    }

    // Promise 3: "The first n of the bytes that are ready come to the text in hand: how many it has."
    private static void howManyCome(Bench b) {
        b.fresh();
        b.is("none", b.x.end(0), 0);
        b.is("one", b.x.end(1), 1);
        b.is("none again", b.x.end(0), 1);
        b.is("nineteen", b.x.end(19), 20);
        b.is("twenty", b.x.end(20), 40);
    }

    // Promise 3: "NONE, and nothing comes, if n is not 0 .. 20, or it would have more than 4000." If n is not 0 .. 20.
    private static void notSoMany(Bench b) {
        b.fresh();
        int[] wrong = {-1, 21, -20, 40, Integer.MIN_VALUE, Integer.MAX_VALUE};
        b.x.end(3);
        for (int n : wrong) {
            b.is("end(" + n + ")", b.x.end(n), -1);
            b.is("nothing came", b.x.end(0), 3);
        }
    }

    // Promise 3: "NONE, and nothing comes, if n is not 0 .. 20, or it would have more than 4000." More than 4000.
    private static void fullText(Bench b) {
        b.fresh();
        for (int i = 1; i <= 199; i++) {
            b.is("20 more", b.x.end(20), 20 * i);
        }
        b.is("3990", b.x.end(10), 3990);
        b.is("4001", b.x.end(11), -1);
        b.is("4010", b.x.end(20), -1);
        b.is("nothing came", b.x.end(0), 3990);
        b.is("4000", b.x.end(10), 4000);
        b.is("one more", b.x.end(1), -1);
        b.is("none more", b.x.end(0), 4000);
        b.is("-1", b.x.end(-1), -1);
        b.refuses("zeros", IllegalArgumentException.class, () -> b.x.load());
        b.is("there is room again", b.x.end(20), 20);
    }

    // Promise 3: "or it would have more than 4000." A text of 4000 bytes is read to its end.
    private static void textThatFillsAll(Bench b) {
        b.fresh();
        b.is("one partition", b.load(padded(SMALL)), 1);
        b.fresh();
        b.refuses("its end", IllegalArgumentException.class, () -> b.load(padded("partition")));
        b.is("the end where more must", b.x.fault(0), 1);
        b.is("at it", b.x.fault(1), 4000);
        b.fresh();
        b.refuses("its last byte", IllegalArgumentException.class,
                () -> b.load(padded(SMALL).substring(0, 3999) + "x"));
        b.is("what can't stand there", b.x.fault(0), 1);
        b.is("at it", b.x.fault(1), 3999);
    }

    // Promise 3: "The first n of the bytes that are ready come to the text in hand: how many it has." What an earlier, longer
    // text left behind it is not of this one.
    private static void textBehindALongerOne(Bench b) {
        String[] longer = {"zzzzzzzzzzzzzzzzzzzzzzzzzzzzzzzzzzz", "00000000000000000000000000000000000", "                                   ",
            ";;;;;;;;;;;;;;;;;;;;;;;;;;;;;;;;;;;"};
        String[] shorter = {"partition", "partition a { memory 512", "partition a", "partition a { memory 512;"};
        for (String first : longer) {
            for (String text : shorter) {
                b.fresh();
                b.refuses("a longer text", IllegalArgumentException.class, () -> b.load(first));
                b.refuses("a shorter one", IllegalArgumentException.class, () -> b.load(text));
                b.is("the end where more must", b.x.fault(0), 1);
                b.is("at it", b.x.fault(1), text.length());
            }
        }
    }

    // Promise 5: "the FAULT, 0 without (what = 0), its place (1; NONE without)." Without.
    private static void faultAheadOfALoad(Bench b) {
        b.fresh();
        b.is("no fault", b.x.fault(0), 0);
        b.is("no place", b.x.fault(1), -1);
        b.load(SMALL);
        b.is("no fault", b.x.fault(0), 0);
        b.is("no place", b.x.fault(1), -1);
    }

    // Promise 5: "Of the latest load(): the FAULT, 0 without (what = 0), its place (1; NONE without)."
    private static void faultOfTheLatest(Bench b) {
        b.fresh();
        b.refuses("a fault", IllegalArgumentException.class, () -> b.load("partition !"));
        b.is("fault", b.x.fault(0), 2);
        b.is("place", b.x.fault(1), 10);
        b.text("x");
        b.is("of the latest load()", b.x.fault(0), 2);
        b.refuses("another fault", IllegalArgumentException.class, () -> b.x.load());
        b.is("fault", b.x.fault(0), 1);
        b.is("at the first byte", b.x.fault(1), 0);
        b.load(SMALL);
        b.is("none any more", b.x.fault(0), 0);
        b.is("no place", b.x.fault(1), -1);
    }

    // Promise 5: "NONE for another what."
    private static void anotherWhat(Bench b) {
        b.fresh();
        int[] others = {-1, 2, 3, Integer.MIN_VALUE, Integer.MAX_VALUE};
        for (int what : others) {
            b.is("fault(" + what + ")", b.x.fault(what), -1);
        }
        b.refuses("a fault", IllegalArgumentException.class, () -> b.load("partition !"));
        for (int what : others) {
            b.is("fault(" + what + ")", b.x.fault(what), -1);
        }
    }
}
