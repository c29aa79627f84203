/** Promises 6 to 8 and 10: image, input, begin, peek. */
public final class ImageTest {
    private static final String TWO = "partition a { memory 256; } partition b { memory 8192; }"
            + " channel sampling 9 { input > output } channel queuing 2 { input > output } frame { a 1; b 1; }";

    public static void main(String[] args) {
        Bench b = new Bench();
        images(b);
        inputs(b);
        begins(b);
        b.finish();
    }

    private static void images(Bench b) {
        b.refuses("none", IllegalStateException.class, () -> b.x.image(0, 0, 1));
        b.refuses("none, and no such", IllegalStateException.class, () -> b.x.image(-1, 1, 1));
        b.is("peek without", b.x.peek(0, 0), 0);
        b.load(TWO);
        b.x.image(0, 0, 11);
        b.x.image(0, 252, -12);
        b.x.image(1, 8188, Integer.MIN_VALUE);
        b.x.image(0, 4, 3);
        b.x.image(0, 4, 4);
        b.is("first", b.x.peek(0, 0), 11);
        b.is("last", b.x.peek(0, 252), -12);
        b.is("last of b", b.x.peek(1, 8188), Integer.MIN_VALUE);
        b.is("the later one", b.x.peek(0, 4), 4);
        b.is("not of b", b.x.peek(1, 0), 0);
        int[][] none = {{2, 0}, {-1, 0}, {0, 256}, {0, -4}, {0, 2}, {0, 1}, {0, 255}, {1, 8192},
            {0, Integer.MIN_VALUE}, {0, Integer.MAX_VALUE}, {Integer.MAX_VALUE, 0}};
        for (int[] at : none) {
            b.refuses("image " + at[0] + " " + at[1], IndexOutOfBoundsException.class,
                    () -> b.x.image(at[0], at[1], 1));
            b.is("peek " + at[0] + " " + at[1], b.x.peek(at[0], at[1]), 0);
        }
        b.x.begin();
        b.is("memory is the image", b.x.peek(0, 252), -12);
        b.refuses("it has begun", IllegalStateException.class, () -> b.x.image(0, 0, 1));
        b.refuses("it has begun, and no such", IllegalStateException.class, () -> b.x.image(7, 0, 1));
    }

    private static void inputs(Bench b) {
        b.fresh();
        b.refuses("none", IllegalStateException.class, () -> b.x.input(0, 0, 1));
        b.load(TWO);
        b.refuses("no such", IndexOutOfBoundsException.class, () -> b.x.input(2, 0, 1));
        b.refuses("no such, time below 0", IndexOutOfBoundsException.class, () -> b.x.input(-1, -1, 1));
        b.refuses("below 0", IllegalArgumentException.class, () -> b.x.input(0, -1, 1));
        b.x.input(0, 0, 5);
        b.refuses("not above", IllegalArgumentException.class, () -> b.x.input(0, 0, 6));
        b.x.input(1, 0, 6);
        b.x.input(0, 7, 7);
        b.refuses("below the latest", IllegalArgumentException.class, () -> b.x.input(0, 6, 6));
        for (int i = 2; i < 60; i++) {
            b.x.input(0, 6 + i, i);
        }
        b.refuses("60, and not above", IllegalArgumentException.class, () -> b.x.input(0, 65, 1));
        b.refuses("60", IllegalStateException.class, () -> b.x.input(0, 66, 1));
        b.x.input(1, Integer.MAX_VALUE, 1);
        b.refuses("above the highest", IllegalArgumentException.class, () -> b.x.input(1, Integer.MIN_VALUE, 1));
        b.x.begin();
        b.refuses("it has begun", IllegalStateException.class, () -> b.x.input(9, -1, 1));
        b.is("none is there yet", b.x.about(4), 0);
        b.x.run(1);
        b.is("two came", b.x.about(4), 2);
        b.isTrace("by the channels' order", 0, 0, 0, 5);
        b.isTrace("by the channels' order", 1, 0, 1, 6);
        b.is("sampled", b.x.wordAt(0, 0), 5);
        b.is("from now", b.x.channel(0, 3), 0);
        b.is("nothing kept to output", b.x.channel(1, 1), 0);
        b.x.run(70);
        b.is("all came", b.x.about(4), 61);
        b.is("the latest", b.x.wordAt(0, 0), 59);
        b.is("at its time", b.x.channel(0, 3), 65);
    }

    private static void begins(Bench b) {
        b.fresh();
        b.refuses("none", IllegalStateException.class, () -> b.x.begin());
        b.load("partition a { memory 256; process h { entry 4; priority 3; handler; }"
                + " process p { entry 8; priority 2; deadline 5; delay 3; }"
                + " process s { entry 12; priority 2; stopped; } process q { entry 16; priority 1; deadline 9; }"
                + " semaphore s1 2 : 3; } partition b { memory 256; } frame { b 1; a 1; }");
        b.isState("ahead of it", 0, 1, 0, 0, 2, -1, -1, 0, 0, 0, 0);
        b.is("how, ahead of it", b.x.partition(0, 11), -1);
        b.is("how often", b.x.partition(0, 8), 0);
        b.is("things as when it begins", b.x.thing(0, 0, 0), 2);
        b.is("window, ahead of it", b.x.about(3), -1);
        b.x.begin();
        b.isState("the handler", 0, 0, 0, 0, 3, -1, -1, 0, 0, 1, 0);
        b.isState("the delayed one", 0, 1, 2, 8, 2, 8, 3, 0, 3, 0, 0);
        b.isState("the stopped one", 0, 2, 0, 0, 2, -1, -1, 0, 0, 0, 0);
        b.isState("the last one", 0, 3, 1, 16, 1, 9, -1, 0, 0, 0, 0);
        for (int i = 0; i < 2; i++) {
            b.is("how", b.x.partition(i, 11), 0);
            b.is("how often", b.x.partition(i, 8), 1);
            b.is("mode", b.x.partition(i, 0), 0);
        }
        b.is("window", b.x.about(3), 1);
        b.refuses("twice", IllegalStateException.class, () -> b.x.begin());
    }
}
