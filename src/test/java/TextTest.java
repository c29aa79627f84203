/** Promises 1 to 3: a new object, feed, end. */
public final class TextTest {
    public static void main(String[] args) {
        Bench b = new Bench();
        newObject(b);
        bytesInOrder(b);
        countsAndLimits(b);
        readyBytes(b);
        b.finish();
    }

    private static void newObject(Bench b) {
        b.is("the constant", PartitionWorks.NONE, -1);
        b.is("text in hand", b.x.end(0), 0);
        b.is("partitions", b.x.about(5), 0);
        b.is("fault", b.x.fault(0), 0);
        b.is("place", b.x.fault(1), -1);
        b.refuses("begin", IllegalStateException.class, () -> b.x.begin());
        b.refuses("an empty text", IllegalArgumentException.class, () -> b.x.load());
        b.is("its fault", b.x.fault(0), 1);
        b.is("its place", b.x.fault(1), 0);
    }

    private static void bytesInOrder(Bench b) {
        b.fresh();
        // "partition ab { memory 256; } frame { ab 7; }" by hand, highest byte first
        b.x.feed(0x70617274, 0x6974696f, 0x6e206162, 0x207b206d, 0x656d6f72);
        b.is("twenty", b.x.end(20), 20);
        b.x.feed(0x79203235, 0x363b207d, 0x20667261, 0x6d65207b, 0x20616220);
        b.is("twenty more", b.x.end(20), 40);
        b.x.feed(0x373b207d, -1, -1, -1, -1);
        b.is("four of them", b.x.end(4), 44);
        b.is("load", b.x.load(), 1);
        b.is("memory", b.x.partition(0, 1), 256);
        b.is("the text is empty then", b.x.end(0), 0);
    }

    private static void countsAndLimits(Bench b) {
        b.fresh();
        b.is("21", b.x.end(21), -1);
        b.is("-1", b.x.end(-1), -1);
        b.is("the lowest", b.x.end(Integer.MIN_VALUE), -1);
        b.is("the highest", b.x.end(Integer.MAX_VALUE), -1);
        b.is("nothing came", b.x.end(0), 0);
        for (int i = 1; i < 200; i++) {
            b.is("20 times " + i, b.x.end(20), 20 * i);
        }
        b.is("19 more", b.x.end(19), 3999);
        b.is("2 are too many", b.x.end(2), -1);
        b.is("1 is not", b.x.end(1), 4000);
        b.is("full", b.x.end(1), -1);
        b.is("none fits", b.x.end(0), 4000);
    }

    private static void readyBytes(Bench b) {
        b.fresh();
        b.x.feed(0x78787878, 0x78787878, 0x78787878, 0x78787878, 0x78787878);
        b.is("refused, they stay", b.x.end(21), -1);
        b.is("one", b.x.end(1), 1);
        b.is("the others are 0 now", b.x.end(1), 2);
        b.refuses("x and a 0", IllegalArgumentException.class, () -> b.x.load());
        b.is("what can't stand there", b.x.fault(0), 1);
        b.is("at x", b.x.fault(1), 0);
        b.is("at first they are 0", new PartitionWorks().end(3), 3);

        b.fresh();
        b.text("partition ");
        b.is("zeros", b.x.end(1), 11);
        b.refuses("a 0", IllegalArgumentException.class, () -> b.x.load());
        b.is("is a word that is none", b.x.fault(0), 2);
        b.is("at it", b.x.fault(1), 10);

        b.fresh();
        b.x.feed(0x61616161, 0, 0, 0, 0);
        b.is("none taken", b.x.end(0), 0);
        b.x.end(1);
        b.refuses("they are 0 behind end(0), too", IllegalArgumentException.class, () -> b.x.load());
        b.is("a word that is none", b.x.fault(0), 2);
    }
}
