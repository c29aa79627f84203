/** Promises 18 to 20: channel, wordAt, trace; ports and the calls 18 and 19, inputs and outputs. */
public final class ChannelTest {
    private static final String P = "process p { entry 0; priority 5; } ";

    public static void main(String[] args) {
        Bench b = new Bench();
        none(b);
        wrongWays(b);
        sampling(b);
        queuing(b);
        waitsToPut(b);
        waitsToTake(b);
        turns(b);
        inputs(b);
        outputs(b);
        traceIsKept(b);
        b.finish();
    }

    private static void none(Bench b) {
        for (int what = -1; what < 7; what++) {
            b.is("channel without " + what, b.x.channel(0, what), -1);
        }
        b.is("word without", b.x.wordAt(0, 0), 0);
        b.is("trace without", b.x.trace(0, 0), -1);
        b.fresh();
        b.load("partition a { memory 256; port i in sampling; port j in sampling; port k out queuing; port l in queuing; }"
                + " channel sampling 44 { input > a.j, output, a.i } channel queuing 7 { a.k > a.l } frame { a 1; }");
        int[][] wants = {{0, 0, 44, -1, 0, 3, -1}, {1, 0, 7, -1, 0, 1, -1}};
        for (int c = 0; c < 2; c++) {
            for (int what = 0; what < 7; what++) {
                b.is("channel " + c + " " + what, b.x.channel(c, what), wants[c][what]);
            }
            b.is("no what", b.x.channel(c, -1), -1);
            b.is("no word", b.x.wordAt(c, 0), 0);
        }
        b.is("no channel", b.x.channel(2, 0), -1);
        b.is("no channel", b.x.channel(-1, 0), -1);
        b.is("no channel", b.x.wordAt(2, 0), 0);
        b.is("no channel", b.x.wordAt(-1, 0), 0);
        int[] channels = {0, 0, 1, 1};
        for (int k = 0; k < 4; k++) {
            b.is("port " + k, b.x.thing(0, 4, k), channels[k]);
        }
    }

    private static void wrongWays(Bench b) {
        String things = P + "port i in sampling; port o out sampling; port q in queuing; port r out queuing;";
        int[][] asks = {{18, 0, 0, 0, 1}, {18, 4, 0, 0, 1}, {18, -1, 0, 0, 1}, {18, 1, 0, -9, 3}, {18, 3, 0, 0, 3},
            {18, 3, 0, -1, 3}, {18, 3, 0, -2, 1}, {18, 2, 0, 0, 1}, {19, 1, 0, 0, 1}, {19, 3, 0, 0, 1}, {19, 4, 0, 0, 1},
            {19, 0, -9, 0, 3}, {19, 2, 0, 0, 3}, {19, 2, -2, 0, 1}, {19, 2, -1, 0, 3}};
        for (int[] ask : asks) {
            b.alone(things);
            b.answers(ask[0] + " of port " + ask[1] + " " + ask[2] + " " + ask[3], ask[4], ask[0], ask[1], ask[2], ask[3]);
        }
    }

    private static void sampling(Bench b) {
        b.fresh();
        b.load("partition a { memory 256; " + P + "port o out sampling; } partition b { memory 256; " + P
                + "port i in sampling; } channel sampling 12 { a.o > b.i, output } frame { b 5; a 10; b 10; }");
        b.program(0, 0, Bench.code(Bench.ask(18, 0, -5), Bench.ask(18, 0, 6), Bench.STAY));
        b.program(1, 0, Bench.code(Bench.set(17, 19), Bench.CALL, Bench.copy(20, 10), Bench.set(10, 0), Bench.jump(0, -12)));
        b.x.begin();
        b.x.run(5);
        b.is("none ever came", b.x.register(1, 0, 20), 2);
        b.x.run(5);
        b.is("has one", b.x.channel(0, 1), 1);
        b.is("since", b.x.channel(0, 3), 9);
        b.is("word", b.x.wordAt(0, 0), -5);
        b.is("just one", b.x.wordAt(0, 1), 0);
        b.isTrace("output", 0, 9, 0, -5);
        b.x.run(5);
        b.is("the later one", b.x.wordAt(0, 0), 6);
        b.is("still one", b.x.channel(0, 1), 1);
        b.is("since", b.x.channel(0, 3), 14);
        b.isTrace("output", 1, 14, 0, 6);
        b.is("two of the trace", b.x.about(4), 2);
        b.x.run(1);
        b.is("read", b.x.register(1, 0, 11), 6);
        b.is("new enough", b.x.register(1, 0, 10), 0);
        b.x.run(8);
        b.is("at 24 it is", b.x.register(1, 0, 10), 0);
        b.x.run(1 + 3);
        // b calls at 15, 19, 23, then at 27 (13 behind 14)
        b.is("too old", b.x.register(1, 0, 10), 5);
        b.is("but read", b.x.register(1, 0, 11), 6);

        // exactly LIMIT behind it is not too old
        b.fresh();
        b.load("partition a { memory 256; " + P + "port o out sampling; port i in sampling; } channel sampling 4 { a.o > a.i }"
                + " channel sampling 0 { input > output } frame { a 9; }");
        b.program(0, 0, Bench.code(Bench.ask(18, 0, 3), Bench.set(17, 19), Bench.set(10, 1), Bench.set(5, 0), Bench.CALL,
                Bench.copy(20, 10), Bench.set(10, 1), Bench.CALL, Bench.STAY));
        b.x.begin();
        b.x.run(10);
        b.isRegister("LIMIT", 0, 20, 0);
        b.x.run(2);
        b.isRegister("more", 0, 10, 5);
        b.isRegister("the word", 0, 11, 3);
    }

    private static final String TWO = "partition a { memory 256; process p { entry 0; priority 5; } port o out queuing; }"
            + " partition b { memory 256; process p { entry 0; priority 5; } port i in queuing; }"
            + " channel queuing 2 { a.o > b.i } ";

    private static void queuing(Bench b) {
        b.fresh();
        b.load(TWO + "frame { a 30; b 50; }");
        b.program(0, 0, Bench.code(Bench.ask(18, 0, 7, 0), Bench.ask(18, 0, 8, 0), Bench.copy(20, 10), Bench.ask(18, 0, 9, 0),
                Bench.copy(21, 10), Bench.STAY));
        b.program(1, 0, Bench.code(Bench.ask(19, 0, 0), Bench.copy(20, 11), Bench.ask(19, 0, 0), Bench.copy(21, 11),
                Bench.copy(22, 10), Bench.ask(19, 0, 0), Bench.STAY));
        b.x.begin();
        b.x.run(30);
        b.is("put", b.x.register(0, 0, 20), 0);
        b.is("full", b.x.register(0, 0, 21), 2);
        b.is("two", b.x.channel(0, 1), 2);
        b.is("none is lost", b.x.channel(0, 4), 0);
        b.is("no time", b.x.channel(0, 3), -1);
        b.is("the first to go", b.x.wordAt(0, 0), 7);
        b.is("then", b.x.wordAt(0, 1), 8);
        b.is("none", b.x.wordAt(0, 2), 0);
        b.is("none", b.x.wordAt(0, -1), 0);
        b.x.run(5);
        b.is("one goes", b.x.wordAt(0, 0), 8);
        b.x.run(30);
        b.is("first", b.x.register(1, 0, 20), 7);
        b.is("second", b.x.register(1, 0, 21), 8);
        b.is("answer", b.x.register(1, 0, 22), 0);
        b.is("nothing there", b.x.register(1, 0, 10), 2);
        b.is("no trace", b.x.about(4), 0);
    }

    private static void waitsToPut(Bench b) {
        b.fresh();
        b.load(TWO + "frame { a 20; b 20; }");
        b.program(0, 0, Bench.code(Bench.ask(18, 0, 7, -1), Bench.ask(18, 0, 8, -1), Bench.ask(18, 0, 9, 15), Bench.copy(20, 10),
                Bench.STAY));
        b.program(1, 0, Bench.code(Bench.set(17, 19), Bench.set(5, 1), Bench.CALL, Bench.STAY));
        b.x.begin();
        b.x.run(20);
        b.isState("waits with a word", 0, 0, 2, 60, 5, -1, 29);
        b.is("counted at its port", b.x.waiting(0, 4, 0), 1);
        b.is("not at the other", b.x.waiting(1, 4, 0), 0);
        b.x.run(2);
        b.is("still", b.x.state(0, 0, 0), 2);
        b.x.run(1);
        b.is("READY in that tick", b.x.state(0, 0, 0), 1);
        b.is("the answer", b.x.register(0, 0, 10), 0);
        b.is("no time", b.x.state(0, 0, 4), -1);
        b.is("its word is at the end", b.x.wordAt(0, 1), 9);
        b.is("two", b.x.channel(0, 1), 2);
        b.is("the first one", b.x.register(1, 0, 11), 7);

        // its time is over at 29, but that is looked at in its own window alone: till then it may be served
        b.fresh();
        b.load(TWO + "frame { a 20; b 20; }");
        b.program(0, 0, Bench.code(Bench.ask(18, 0, 7, -1), Bench.ask(18, 0, 8, -1), Bench.ask(18, 0, 9, 15), Bench.copy(20, 10),
                Bench.STAY));
        b.program(1, 0, Bench.code(Bench.ask(2, 8), Bench.set(17, 19), Bench.CALL, Bench.STAY));
        b.x.begin();
        b.x.run(32);
        b.isState("still waits", 0, 0, 2, 60, 5, -1, 29);
        b.x.run(2);
        b.is("served", b.x.register(0, 0, 10), 0);
        b.is("READY", b.x.state(0, 0, 0), 1);

        b.fresh();
        b.load(TWO + "frame { a 20; b 20; }");
        b.program(0, 0, Bench.code(Bench.ask(18, 0, 7, -1), Bench.ask(18, 0, 8, -1), Bench.ask(18, 0, 9, 15), Bench.copy(20, 10),
                Bench.STAY));
        b.program(1, 0, Bench.STAY);
        b.x.begin();
        b.x.run(41);
        b.is("the time is over", b.x.register(0, 0, 20), 4);
        b.is("two", b.x.channel(0, 1), 2);
        b.is("waits no more", b.x.waiting(0, 4, 0), 0);
    }

    private static void waitsToTake(Bench b) {
        b.fresh();
        b.load(TWO + "frame { b 20; a 20; }");
        b.program(0, 0, Bench.code(Bench.ask(18, 0, 7, 0), Bench.ask(18, 0, 8, 0), Bench.STAY));
        b.program(1, 0, Bench.code(Bench.ask(19, 0, -1), Bench.copy(20, 11), Bench.STAY));
        b.x.begin();
        b.x.run(20);
        b.isState("waits", 1, 0, 2, 20, 5, -1, -1);
        b.is("counted at its port", b.x.waiting(1, 4, 0), 1);
        b.x.run(5);
        b.is("READY in that tick", b.x.state(1, 0, 0), 1);
        b.is("has it", b.x.register(1, 0, 11), 7);
        b.is("the answer", b.x.register(1, 0, 10), 0);
        b.is("who put it has its answer", b.x.register(0, 0, 10), 0);
        b.is("nothing is kept", b.x.channel(0, 1), 0);
        b.x.run(5);
        b.is("the next is kept", b.x.wordAt(0, 0), 8);
        b.x.run(11);
        b.is("goes on in its window", b.x.register(1, 0, 20), 7);
    }

    private static void turns(Bench b) {
        for (int fifo = 0; fifo < 2; fifo++) {
            b.fresh();
            b.load("partition a { memory 512; process l { entry 0; priority 2; } process m { entry 256; priority 7; delay 6; }"
                    + " port i in queuing; } channel queuing 3 " + (fifo == 1 ? "fifo" : "") + " { input > a.i } frame { a 9; }");
            b.program(0, 0, Bench.code(Bench.ask(19, 0, -1), Bench.STAY));
            b.program(0, 256, Bench.code(Bench.ask(19, 0, -1), Bench.STAY));
            b.x.input(0, 20, 44);
            b.x.begin();
            b.x.run(20);
            b.is("both wait", b.x.waiting(0, 4, 0), 2);
            b.x.run(1);
            b.isRegister("has it", fifo == 1 ? 0 : 1, 11, 44);
            b.is("goes on at once", b.x.state(0, fifo == 1 ? 0 : 1, 5), 6);
            b.is("the other waits", b.x.waiting(0, 4, 0), 1);
        }
    }

    private static void inputs(Bench b) {
        b.fresh();
        b.load("partition a { memory 256; " + P + "port i in queuing; port j in sampling; } channel queuing 2 { input > a.i }"
                + " channel sampling 3 { input > a.j, output } frame { a 9; }");
        b.program(0, 0, Bench.code(Bench.ask(2, 10), Bench.ask(19, 0, 0), Bench.STAY));
        for (int t = 0; t < 4; t++) {
            b.x.input(0, t, 10 + t);
            b.x.input(1, 2 * t, 20 + t);
        }
        b.x.input(0, 40, 50);
        b.x.begin();
        b.x.run(1);
        b.is("one", b.x.channel(0, 1), 1);
        b.x.run(7);
        b.is("two", b.x.channel(0, 1), 2);
        b.is("two are lost", b.x.channel(0, 4), 2);
        b.is("first", b.x.wordAt(0, 0), 10);
        b.is("second", b.x.wordAt(0, 1), 11);
        b.is("sampled", b.x.wordAt(1, 0), 23);
        b.is("none is lost", b.x.channel(1, 4), 0);
        for (int t = 0; t < 4; t++) {
            b.isTrace("each", t, 2 * t, 1, 20 + t);
        }
        b.is("four", b.x.about(4), 4);
        b.x.run(12);
        b.isRegister("taken", 0, 11, 10);
        b.is("one is left", b.x.channel(0, 1), 1);
        b.x.run(21);
        b.is("room for one", b.x.wordAt(0, 1), 50);
    }

    private static void outputs(Bench b) {
        b.fresh();
        b.load("partition a { memory 256; " + P + "port o out queuing; port s out sampling; } channel queuing 1 { a.o > output }"
                + " channel sampling 3 { a.s > output, output } frame { a 9; }");
        b.program(0, 0, Bench.code(Bench.ask(18, 0, 5, -1), Bench.ask(18, 0, -1, -1), Bench.ask(18, 1, 7), Bench.STAY));
        b.x.begin();
        b.x.run(10);
        b.isRegister("never full", 0, 10, 0);
        b.is("nothing is kept", b.x.channel(0, 1), 0);
        b.is("no word", b.x.wordAt(0, 0), 0);
        b.isTrace("first", 0, 4, 0, 5);
        b.isTrace("second", 1, 9, 0, -1);
        b.is("none", b.x.trace(2, 0), -1);
        b.x.run(5);
        b.is("one for each goal", b.x.about(4), 4);
        b.isTrace("sampled", 2, 14, 1, 7);
        b.isTrace("sampled", 3, 14, 1, 7);
        b.is("it has the word, too", b.x.wordAt(1, 0), 7);
        b.is("from now", b.x.channel(1, 3), 14);
        b.is("no what", b.x.trace(0, 3), -1);
        b.is("no what", b.x.trace(0, -1), -1);
        b.is("none", b.x.trace(-1, 0), -1);
    }

    private static void traceIsKept(Bench b) {
        b.fresh();
        b.load("partition a { memory 256; " + P + "port s out sampling; } channel sampling 3 { a.s > output, output, output, output }"
                + " frame { a 9; }");
        b.program(0, 0, Bench.code(Bench.set(17, 18), Bench.CALL, Bench.withNumber(0, 11, 11, 1), Bench.jump(0, -8)));
        b.x.begin();
        b.x.run(500);
        b.is("in all", b.x.about(4), 4 * 167);
        b.isTrace("the first", 0, 1, 0, 0);
        b.isTrace("the last one kept", 299, 1 + 74 * 3, 0, 74);
        b.is("not kept", b.x.trace(300, 0), -1);
        b.is("not kept", b.x.trace(400, 2), -1);
    }
}
