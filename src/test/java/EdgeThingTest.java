/** Edges of the term CALLS: the calls 8 to 19, of things and ports. Above each test stands the sentence that it is of. */
public final class EdgeThingTest {
    private static final int LOWEST = Integer.MIN_VALUE;
    private static final int HIGHEST = Integer.MAX_VALUE;
    private static final String P = "process p { entry 0; priority 5; } ";

    public static void main(String[] args) {
        Bench b = new Bench();
        noSuchThing(b);
        theLastOfEight(b);
        call8(b);
        call9(b);
        call9WithWaiters(b);
        call10(b);
        call11(b);
        call12(b);
        call13(b);
        call13WithATaker(b);
        call14(b);
        call14WithAPutter(b);
        wordsGoRound(b);
        call15(b);
        call16And17(b);
        noSuchPort(b);
        portsWithoutAChannel(b);
        call18ToOutput(b);
        call18Sampling(b);
        call18Queuing(b);
        queuesGoRound(b);
        call19NoneEverCame(b);
        call19AtItsLimit(b);
        call19AtTheGreatestLimit(b);
        call19Queuing(b);
        lostWords(b);
        readyInThatTick(b);
        b.finish();
    }

    // CALLS: "the answer comes to x10: 0 done, 1 no such thing or number" Of the calls 8 to 17.
    private static void noSuchThing(Bench b) {
        String things = P + "semaphore s 1 : 2; event e; buffer u 1; board o; ";
        int[] none = {-1, 1, 8, 16, LOWEST, HIGHEST};
        for (int call = 8; call <= 17; call++) {
            for (int a : none) {
                b.is("call " + call + " of " + a, b.asked(things, call, a, 0, 0), 1);
                b.is("it goes on", b.x.state(0, 0, 0), 1);
                b.isRegister("x11 stays", 0, 11, 0);
            }
            b.is("call " + call + " without any", b.asked(P, call, 0, 0, 0), 1);
        }
    }

    // CONFIGURATION: "8 of each other thing in a partition." and CALLS: "1 no such thing or number" The last of eight is one.
    private static void theLastOfEight(Bench b) {
        String things = P + Bench.times(8, "semaphore s# 1 : 2; event e#; buffer u# 1; board o#; ");
        int[][] asks = {{8, 0, 0}, {9, 0, 0}, {10, 0, 0}, {11, 0, 0}, {12, 0, 2}, {13, 5, 0}, {14, 0, 2}, {15, 5, 0}, {16, 0, 0}, {17, 0, 2}};
        for (int[] ask : asks) {
            b.is("call " + ask[0], b.asked(things, ask[0], 7, ask[1], 0), ask[2]);
            b.is("call " + ask[0], b.asked(things, ask[0], 8, ask[1], 0), 1);
        }
    }

    // CALLS: "8: semaphore a, t = b: if its count is above 0 it is one less; else it WAITS for it."
    private static void call8(Bench b) {
        int[] counts = {1, 2, 100};
        for (int count : counts) {
            b.is("8", b.asked(P + "semaphore s " + count + " : 100;", 8, 0, -1, 0), 0);
            b.is("one less", b.x.thing(0, 0, 0), count - 1);
            b.is("nobody waits", b.x.waiting(0, 0, 0), 0);
        }
        b.asked(P + "semaphore s 0 : 100;", 8, 0, -1, 0);
        b.is("0 still", b.x.thing(0, 0, 0), 0);
        b.is("it WAITS", b.x.waiting(0, 0, 0), 1);
    }

    // CALLS: "9: who WAITS for semaphore a, in their turn, becomes READY; else its count is one more, or 2 if it is the most."
    private static void call9(Bench b) {
        int[][] rows = {{0, 1, 0}, {1, 1, 2}, {99, 100, 0}, {100, 100, 2}, {4, 5, 0}, {5, 5, 2}};
        for (int[] row : rows) {
            b.is("9 at " + row[0], b.asked(P + "semaphore s " + row[0] + " : " + row[1] + ";", 9, 0, 0, 0), row[2]);
            b.is("count", b.x.thing(0, 0, 0), row[2] == 0 ? row[0] + 1 : row[1]);
        }
    }

    // CALLS: "9: who WAITS for semaphore a, in their turn, becomes READY; else its count is one more"
    private static void call9WithWaiters(Bench b) {
        b.alone("process g { entry 0; priority 1; } " + Bench.times(15, "process w# { entry 512; priority 5; } ")
                + "semaphore s 0 : 1; semaphore z 0 : 1;");
        b.program(0, 512, Bench.code(Bench.ask(8, 0, -1), Bench.ask(0)));
        b.program(0, 0, Bench.set(17, 9), Bench.CALL, Bench.jump(0, -4));
        b.x.begin();
        b.x.run(75);
        b.is("fifteen wait", b.x.waiting(0, 0, 0), 15);
        for (int n = 1; n <= 15; n++) {
            b.x.run(2);
            b.is("one fewer waits", b.x.waiting(0, 0, 0), 15 - n);
            b.is("READY", b.x.state(0, n, 0), 1);
            b.is("its count stays 0", b.x.thing(0, 0, 0), 0);
            b.isRegister("the answer", 0, 10, 0);
            b.x.run(5);
        }
        b.x.run(2);
        b.is("then it counts", b.x.thing(0, 0, 0), 1);
        b.x.run(2);
        b.isRegister("the most", 0, 10, 2);
    }

    // CALLS: "10: event a is up, all who WAIT for it become READY, in order (by their numbers; so by 15, too)."
    private static void call10(Bench b) {
        everybody(b, Bench.ask(12, 1, -1), Bench.ask(10, 1), -1);
        b.is("up", b.x.thing(0, 1, 1), 1);
        b.is("the other is down", b.x.thing(0, 1, 0), 0);
        b.alone(P + "event e;");
        b.program(0, 0, Bench.code(Bench.ask(10, 0), Bench.ask(10, 0), Bench.STAY));
        b.x.begin();
        b.x.run(10);
        b.isRegister("up already", 0, 10, 0);
        b.is("up", b.x.thing(0, 1, 0), 1);
    }

    /** Fifteen wait, the last of them first; then all are READY, by their numbers, with a word in x11. The sixteenth gives. */
    private static void everybody(Bench b, int[] wait, int[] give, int word) {
        StringBuilder processes = new StringBuilder();
        for (int i = 0; i < 15; i++) {
            processes.append("process w" + i + " { entry 512; priority 5; delay " + 10 * (15 - i) + "; } ");
        }
        b.alone(processes + "process g { entry 0; priority 1; delay 200; } event d; event e; board n; board o;");
        b.program(0, 512, Bench.code(wait, Bench.set(17, 0), Bench.CALL));
        b.program(0, 0, Bench.code(give, Bench.STAY));
        b.x.begin();
        b.x.run(204);
        int sort = wait[3] == Bench.set(17, 12) ? 1 : 3;
        b.is("fifteen wait", b.x.waiting(0, sort, 1), 15);
        b.x.run(1);
        b.is("none waits", b.x.waiting(0, sort, 1), 0);
        b.isRegister("the answer", 15, 10, 0);
        for (int i = 0; i < 15; i++) {
            b.is("READY", b.x.state(0, i, 0), 1);
            b.isRegister("it has what it waited for", i, 10, 0);
            b.isRegister("its word", i, 11, word);
        }
        for (int i = 0; i < 15; i++) {
            b.is("by their numbers", b.x.partition(0, 10), i);
            b.x.run(2);
        }
        b.is("then g", b.x.partition(0, 10), 15);
    }

    // CALLS: "11: it is down."
    private static void call11(Bench b) {
        b.is("down already", b.asked(P + "event e;", 11, 0, 0, 0), 0);
        b.is("down", b.x.thing(0, 1, 0), 0);
        b.alone(P + "event e; event f;");
        b.program(0, 0, Bench.code(Bench.ask(10, 0), Bench.ask(10, 1), Bench.ask(11, 0), Bench.STAY));
        b.x.begin();
        b.x.run(15);
        b.is("down", b.x.thing(0, 1, 0), 0);
        b.is("the other is up", b.x.thing(0, 1, 1), 1);
    }

    // CALLS: "12, t = b: if event a is up 0; else it WAITS for it."
    private static void call12(Bench b) {
        b.alone(P + "event e;");
        b.program(0, 0, Bench.code(Bench.ask(10, 0), Bench.ask(12, 0, -1), Bench.copy(20, 10), Bench.ask(12, 0, 0), Bench.copy(21, 10),
                Bench.ask(11, 0), Bench.ask(12, 0, -1)));
        b.x.begin();
        b.x.run(17);
        b.isRegister("up", 0, 20, 0);
        b.isRegister("up still", 0, 21, 0);
        b.is("up still", b.x.thing(0, 1, 0), 1);
        b.x.run(10);
        b.is("down: it WAITS", b.x.waiting(0, 1, 0), 1);
    }

    // CALLS: "13: buffer a, t = c: if one WAITS to take from it, that has b in x11 and is READY; else b comes to its end; if it
    // is full it WAITS with b." To its end, and full.
    private static void call13(Bench b) {
        int[] depths = {1, 2, 16};
        for (int depth : depths) {
            b.alone(P + "buffer u " + depth + ";");
            b.program(0, 0, Bench.set(17, 13), Bench.set(10, 0), Bench.set(12, -1), Bench.withNumber(0, 11, 11, 1), Bench.CALL,
                    Bench.jump(0, -16));
            b.x.begin();
            b.x.run(5 * depth);
            b.is("full", b.x.thing(0, 2, 0), depth);
            b.isRegister("the answer", 0, 10, 0);
            for (int i = 0; i < depth; i++) {
                b.is("word " + i, b.x.wordOf(0, 2, 0, i), 1 + i);
            }
            b.is("nobody waits", b.x.waiting(0, 2, 0), 0);
            b.x.run(5);
            b.is("it WAITS", b.x.waiting(0, 2, 0), 1);
            b.is("no more words", b.x.thing(0, 2, 0), depth);
            b.is("no word", b.x.wordOf(0, 2, 0, depth), 0);
        }
        int[] words = {0, -1, LOWEST, HIGHEST};
        for (int word : words) {
            b.is("13", b.asked(P + "buffer u 1;", 13, 0, word, 0), 0);
            b.is("any word", b.x.wordOf(0, 2, 0, 0), word);
            b.is("one", b.x.thing(0, 2, 0), 1);
        }
    }

    // CALLS: "13: buffer a, t = c: if one WAITS to take from it, that has b in x11 and is READY"
    private static void call13WithATaker(Bench b) {
        b.alone("process g { entry 0; priority 1; } process w { entry 512; priority 5; } buffer u 1;");
        b.program(0, 512, Bench.code(Bench.ask(14, 0, 50), Bench.STAY));
        b.program(0, 0, Bench.code(Bench.setLong(11, LOWEST), Bench.set(17, 13), Bench.CALL, Bench.STAY));
        b.x.begin();
        b.x.run(5);
        b.is("it WAITS", b.x.waiting(0, 2, 0), 1);
        b.x.run(4);
        b.isRegister("the word", 1, 11, LOWEST);
        b.isRegister("the answer", 1, 10, 0);
        b.isState("READY", 0, 1, 1, 532, 5, -1, -1);
        b.is("nothing is kept", b.x.thing(0, 2, 0), 0);
        b.isRegister("the answer", 0, 10, 0);
    }

    // CALLS: "14, t = b: if it has words the first one comes to x11" .. "else it WAITS to take."
    private static void call14(Bench b) {
        b.alone(P + "buffer u 2;");
        b.program(0, 0, Bench.code(Bench.ask(13, 0, 41, 0), Bench.ask(13, 0, 42, 0), Bench.ask(14, 0, -1), Bench.copy(20, 11),
                Bench.ask(14, 0, 0), Bench.copy(21, 11), Bench.ask(14, 0, -1)));
        b.x.begin();
        b.x.run(22);
        b.isRegister("the first", 0, 20, 41);
        b.isRegister("the second", 0, 21, 42);
        b.is("empty", b.x.thing(0, 2, 0), 0);
        b.x.run(5);
        b.is("it WAITS", b.x.waiting(0, 2, 0), 1);
    }

    // CALLS: "(and who WAITS with a word, in its turn, puts that at the end and is READY)"
    private static void call14WithAPutter(Bench b) {
        b.alone("process g { entry 0; priority 1; } process w { entry 512; priority 5; } process v { entry 768; priority 4; } buffer u 2;");
        b.program(0, 512, Bench.code(Bench.ask(13, 0, 41, 0), Bench.ask(13, 0, 42, 0), Bench.ask(13, 0, 43, -1), Bench.STAY));
        b.program(0, 768, Bench.code(Bench.ask(13, 0, 44, 390), Bench.STAY));
        b.program(0, 0, Bench.code(Bench.set(17, 14), Bench.CALL, Bench.STAY));
        b.x.begin();
        b.x.run(20);
        b.is("two wait", b.x.waiting(0, 2, 0), 2);
        b.x.run(2);
        b.isRegister("the first word", 0, 11, 41);
        b.is("full still", b.x.thing(0, 2, 0), 2);
        b.is("the second", b.x.wordOf(0, 2, 0, 0), 42);
        b.is("at the end", b.x.wordOf(0, 2, 0, 1), 43);
        b.is("READY", b.x.state(0, 1, 0), 1);
        b.isRegister("the answer", 1, 10, 0);
        b.is("the other waits", b.x.waiting(0, 2, 0), 1);
        b.is("until", b.x.state(0, 2, 4), 19 + 390);
    }

    // CALLS: "else b comes to its end" and "the first one comes to x11" The words go round as often as they may.
    private static void wordsGoRound(Bench b) {
        int[] depths = {1, 2, 3, 7, 16};
        for (int depth : depths) {
            for (int kept = 1; kept <= depth; kept += Math.max(1, depth - 1)) {
                b.alone(P + "buffer u " + depth + ";");
                // puts as many as are kept, then takes one and puts one for ever; x20 is the next word
                b.program(0, 0, Bench.code(Bench.set(21, kept), Bench.set(17, 13), Bench.set(10, 0), Bench.copy(11, 20), Bench.CALL,
                        Bench.withNumber(0, 20, 20, 1), Bench.branch(4, 20, 21, -16), Bench.set(17, 14), Bench.set(10, 0), Bench.set(11, 0),
                        Bench.CALL, Bench.copy(22, 11), Bench.set(17, 13), Bench.copy(11, 20), Bench.CALL, Bench.withNumber(0, 20, 20, 1),
                        Bench.jump(0, -36)));
                b.x.begin();
                b.x.run(2 + 5 * kept);
                for (int n = 0; n < 40; n++) {
                    b.is("words", b.x.thing(0, 2, 0), kept);
                    for (int i = 0; i < kept; i++) {
                        b.is("word " + i, b.x.wordOf(0, 2, 0, i), n + i);
                    }
                    b.is("no more", b.x.wordOf(0, 2, 0, kept), 0);
                    b.x.run(10);
                    b.isRegister("taken", 0, 22, n);
                }
            }
        }
    }

    // CALLS: "15: board a shows b; all who WAIT to read it have it in x11 and are READY, in order."
    private static void call15(Bench b) {
        everybody(b, Bench.ask(17, 1, -1), Bench.ask(15, 1, 0), 0);
        everybody(b, Bench.ask(17, 1, -1), Bench.ask(15, 1, -7), -7);
        b.is("the other shows nothing", b.x.thing(0, 3, 0), 0);
        // who waits for another board, or does not wait at all, has nothing of it
        b.alone("process w { entry 512; priority 9; } process v { entry 768; priority 9; } process g { entry 0; priority 1; } board n; board o;");
        b.program(0, 512, Bench.ask(17, 1, 50));
        b.program(0, 768, Bench.code(Bench.set(11, 9), Bench.ask(2, 50, 9)));
        b.program(0, 0, Bench.code(Bench.ask(15, 0, 7), Bench.STAY));
        b.x.begin();
        b.x.run(16);
        b.isRegister("shown", 2, 10, 0);
        b.isState("it waits on", 0, 0, 2, 532, 9, -1, 54);
        b.isRegister("its x11 stays", 0, 11, 50);
        b.isState("it waits on", 0, 1, 2, 792, 9, -1, 60);
        b.isRegister("its x11 stays", 1, 11, 9);
        int[] words = {0, -1, LOWEST, HIGHEST};
        for (int word : words) {
            b.is("15", b.asked(P + "board o;", 15, 0, word, 0), 0);
            b.is("shows something", b.x.thing(0, 3, 0), 1);
            b.is("any word", b.x.wordOf(0, 3, 0, 0), word);
        }
    }

    // CALLS: "16: it shows nothing. 17, t = b: if board a shows something, that comes to x11; else it WAITS to read it."
    private static void call16And17(Bench b) {
        b.is("nothing already", b.asked(P + "board o;", 16, 0, 0, 0), 0);
        b.is("nothing", b.x.thing(0, 3, 0), 0);
        b.alone(P + "board o;");
        b.program(0, 0, Bench.code(Bench.ask(15, 0, 0), Bench.ask(17, 0, -1), Bench.copy(20, 11), Bench.ask(17, 0, 0), Bench.copy(21, 10),
                Bench.ask(16, 0), Bench.ask(17, 0, -1)));
        b.x.begin();
        b.x.run(17);
        b.isRegister("a 0 is something", 0, 20, 0);
        b.isRegister("it shows it still", 0, 21, 0);
        b.x.run(10);
        b.is("nothing", b.x.wordOf(0, 3, 0, 0), 0);
        b.is("it WAITS", b.x.waiting(0, 3, 0), 1);
    }

    // CALLS: "(A port the wrong way is 1;"
    private static void noSuchPort(Bench b) {
        String things = P + "port i in sampling; port o out sampling; port q in queuing; port r out queuing; ";
        int[] none = {-1, 4, 16, LOWEST, HIGHEST};
        for (int a : none) {
            b.is("18 of " + a, b.asked(things, 18, a, 0, 0), 1);
            b.is("19 of " + a, b.asked(things, 19, a, 0, 0), 1);
        }
        b.is("18 of an in port", b.asked(things, 18, 0, 0, 0), 1);
        b.is("18 of an in port", b.asked(things, 18, 2, 0, 0), 1);
        b.is("19 of an out port", b.asked(things, 19, 1, 0, 0), 1);
        b.is("19 of an out port", b.asked(things, 19, 3, 0, 0), 1);
        String sixteen = P + Bench.times(15, "port i# in sampling; ") + "port o out sampling; ";
        b.is("the last of sixteen", b.asked(sixteen, 18, 15, 0, 0), 3);
        b.is("no 17th", b.asked(sixteen, 18, 16, 0, 0), 1);
    }

    // CALLS: "without a channel 3" .. "a TIME that is none is 1 ahead of 3, of a sampling port it isn't looked at."
    private static void portsWithoutAChannel(Bench b) {
        String things = P + "port i in sampling; port o out sampling; port q in queuing; port r out queuing; ";
        int[] times = {-2, -1, 0, 1, 100000, 100001, LOWEST, HIGHEST};
        for (int t : times) {
            int queuing = t < -1 || t > 100000 ? 1 : 3;
            b.is("18 of a sampling port", b.asked(things, 18, 1, 5, t), 3);
            b.is("18 of a queuing port", b.asked(things, 18, 3, 5, t), queuing);
            b.is("19 of a sampling port", b.asked(things, 19, 0, t, 0), 3);
            b.is("19 of a queuing port", b.asked(things, 19, 2, t, 0), queuing);
        }
        for (int t : times) {
            b.fresh();
            b.load("partition a { memory 1024; " + P + "port o out sampling; port i in sampling; } channel sampling 9 { a.o > a.i }"
                    + " frame { a 10; }");
            b.is("it isn't looked at", b.called(18, 0, 5, t), 0);
            b.fresh();
            b.load("partition a { memory 1024; " + P + "port i in sampling; } channel sampling 9 { input > a.i } frame { a 10; }");
            b.is("it isn't looked at", b.called(19, 0, t, 0), 2);
        }
    }

    // CALLS: "for each goal that is output the TRACE has it (time, channel, b)" .. "to output nothing is kept"
    private static void call18ToOutput(Bench b) {
        for (int goals = 1; goals <= 4; goals++) {
            b.fresh();
            b.load("partition a { memory 1024; " + P + "port o out sampling; } channel queuing 1 { input > output }"
                    + " channel sampling 9 { a.o > output" + Bench.times(goals - 1, ", output") + " } frame { a 10; }");
            b.is("18", b.called(18, 0, LOWEST, 0), 0);
            b.is("for each goal", b.x.about(4), goals);
            for (int k = 0; k < goals; k++) {
                b.isTrace("time, channel, word", k, 8, 1, LOWEST);
            }
            b.is("no more", b.x.trace(goals, 0), -1);
            b.is("its channel has it", b.x.wordAt(1, 0), LOWEST);
        }
        b.fresh();
        b.load("partition a { memory 1024; " + P + "port o out queuing; } channel queuing 1 { a.o > output } frame { a 10; }");
        b.program(0, 0, Bench.set(17, 18), Bench.set(12, -1), Bench.set(10, 0), Bench.CALL, Bench.jump(0, -8));
        b.x.begin();
        b.x.run(500);
        b.is("never full", b.x.about(4), 166);
        b.is("nothing is kept", b.x.channel(0, 1), 0);
        b.is("nothing is kept", b.x.wordAt(0, 0), 0);
        b.is("nothing is lost", b.x.channel(0, 4), 0);
        b.is("nobody waits", b.x.state(0, 0, 0), 1);
    }

    // CALLS: "sampling: its channel has b from now"
    private static void call18Sampling(Bench b) {
        b.fresh();
        b.load("partition a { memory 1024; " + P + "port o out sampling; port i in sampling; } channel sampling 0 { a.o > a.i }"
                + " frame { a 10; }");
        b.program(0, 0, Bench.code(Bench.ask(18, 0, -1), Bench.ask(18, 0, 0), Bench.STAY));
        b.x.begin();
        b.x.run(4);
        b.is("none", b.x.channel(0, 1), 0);
        b.is("never", b.x.channel(0, 3), -1);
        b.x.run(1);
        b.is("one", b.x.channel(0, 1), 1);
        b.is("the word", b.x.wordAt(0, 0), -1);
        b.is("from now", b.x.channel(0, 3), 4);
        b.x.run(5);
        b.is("one still", b.x.channel(0, 1), 1);
        b.is("the later word, a 0", b.x.wordAt(0, 0), 0);
        b.is("from now", b.x.channel(0, 3), 9);
    }

    // CALLS: "queuing: as a buffer (t;" Full.
    private static void call18Queuing(Bench b) {
        int[] depths = {1, 2, 32};
        for (int depth : depths) {
            b.fresh();
            b.load("partition a { memory 1024; " + P + "port o out queuing; port i in queuing; } channel queuing " + depth
                    + " { a.o > a.i } frame { a 10; }");
            b.program(0, 0, Bench.set(17, 18), Bench.set(10, 0), Bench.set(12, -1), Bench.withNumber(0, 11, 11, 1), Bench.CALL,
                    Bench.jump(0, -16));
            b.x.begin();
            b.x.run(5 * depth);
            b.is("full", b.x.channel(0, 1), depth);
            b.isRegister("the answer", 0, 10, 0);
            for (int i = 0; i < depth; i++) {
                b.is("word " + i, b.x.wordAt(0, i), 1 + i);
            }
            b.is("no more", b.x.wordAt(0, depth), 0);
            b.x.run(5);
            b.is("it WAITS", b.x.waiting(0, 4, 0), 1);
            b.is("none is lost", b.x.channel(0, 4), 0);
            b.is("no TRACE", b.x.about(4), 0);
        }
    }

    // CALLS: "queuing: as a buffer" The words go round as often as they may.
    private static void queuesGoRound(Bench b) {
        int[] depths = {1, 3, 32};
        for (int depth : depths) {
            b.fresh();
            b.load("partition a { memory 1024; " + P + "port o out queuing; port i in queuing; } channel queuing " + depth
                    + " { a.o > a.i } frame { a 10; }");
            b.program(0, 0, Bench.code(Bench.set(21, depth), Bench.set(17, 18), Bench.set(10, 0), Bench.copy(11, 20), Bench.CALL,
                    Bench.withNumber(0, 20, 20, 1), Bench.branch(4, 20, 21, -16), Bench.set(17, 19), Bench.set(10, 1), Bench.set(11, 0),
                    Bench.CALL, Bench.copy(22, 11), Bench.set(17, 18), Bench.set(10, 0), Bench.copy(11, 20), Bench.CALL,
                    Bench.withNumber(0, 20, 20, 1), Bench.jump(0, -40)));
            b.x.begin();
            b.x.run(2 + 5 * depth);
            for (int n = 0; n < 70; n++) {
                b.is("words", b.x.channel(0, 1), depth);
                for (int i = 0; i < depth; i++) {
                    b.is("word " + i, b.x.wordAt(0, i), n + i);
                }
                b.x.run(11);
                b.isRegister("taken", 0, 22, n);
            }
        }
    }

    // CALLS: "sampling: 2 if none ever came"
    private static void call19NoneEverCame(Bench b) {
        String text = "partition a { memory 1024; " + P + "port i in sampling; } channel sampling 100000 { input > a.i } frame { a 10; }";
        b.fresh();
        b.load(text);
        b.x.input(0, 9, 5);
        b.is("it comes one tick later", b.called(19, 0, 77, 0), 2);
        b.isRegister("x11 stays", 0, 11, 77);
        b.fresh();
        b.load(text);
        b.x.input(0, 8, 0);
        b.is("a 0 came just now", b.called(19, 0, 77, 0), 0);
        b.isRegister("it", 0, 11, 0);
    }

    // CALLS: "else x11 is it, the answer 0 if now is not more than LIMIT behind it, else 5"
    private static void call19AtItsLimit(Bench b) {
        for (int limit = 0; limit <= 9; limit++) {
            for (int time = 0; time <= 8; time++) {
                b.fresh();
                b.load("partition a { memory 1024; " + P + "port i in sampling; } channel sampling " + limit + " { input > a.i } frame { a 10; }");
                b.x.input(0, time, -5);
                b.is("LIMIT " + limit + ", came at " + time + ", now 8", b.called(19, 0, 0, 0), 8 - time <= limit ? 0 : 5);
                b.isRegister("x11 is it in any case", 0, 11, -5);
                b.is("it stays", b.x.channel(0, 1), 1);
            }
        }
    }

    // CALLS: "the answer 0 if now is not more than LIMIT behind it, else 5" The greatest LIMIT.
    private static void call19AtTheGreatestLimit(Bench b) {
        for (int more = 0; more < 2; more++) {
            b.fresh();
            b.load("partition a { memory 1024; process p { entry 0; priority 5; delay " + (99992 + more)
                    + "; } port i in sampling; } channel sampling 100000 { input > a.i } frame { a 10; }");
            b.x.input(0, 0, 7);
            b.program(0, 0, Bench.code(Bench.askLong(19, 0, 0, 0), Bench.STAY));
            b.x.begin();
            for (int n = 0; n < 200; n++) {
                b.x.run(500);
            }
            b.x.run(1 + more);
            b.is("the call is done", b.x.state(0, 0, 5), 9);
            b.isRegister("the answer", 0, 10, more == 0 ? 0 : 5);
        }
    }

    // CALLS: "queuing: as a buffer."
    private static void call19Queuing(Bench b) {
        b.fresh();
        b.load("partition a { memory 1024; " + P + "port i in queuing; } channel queuing 2 { input > a.i } frame { a 10; }");
        b.x.input(0, 0, 41);
        b.x.input(0, 1, 42);
        b.x.input(0, 40, 43);
        b.program(0, 0, Bench.code(Bench.ask(19, 0, -1), Bench.copy(20, 11), Bench.ask(19, 0, 0), Bench.copy(21, 11), Bench.ask(19, 0, 0),
                Bench.copy(22, 10), Bench.ask(19, 0, -1), Bench.STAY));
        b.x.begin();
        b.x.run(23);
        b.isRegister("the first", 0, 20, 41);
        b.isRegister("the second", 0, 21, 42);
        b.isRegister("no third", 0, 22, 2);
        b.is("it WAITS", b.x.waiting(0, 4, 0), 1);
        b.x.run(18);
        b.isRegister("the third", 0, 11, 43);
        b.is("nothing is kept", b.x.channel(0, 1), 0);
    }

    // CALLS: "Channels from input: words that find a queue full are lost.)"
    private static void lostWords(Bench b) {
        int[] depths = {1, 32};
        for (int depth : depths) {
            b.fresh();
            b.load("partition a { memory 256; port i in queuing; } channel queuing " + depth + " { input > a.i } frame { a 10; }");
            for (int t = 0; t < 60; t++) {
                b.x.input(0, t, 100 + t);
            }
            b.x.begin();
            b.x.run(depth);
            b.is("full", b.x.channel(0, 1), depth);
            b.is("none is lost", b.x.channel(0, 4), 0);
            b.x.run(1);
            b.is("one is lost", b.x.channel(0, 4), 1);
            b.x.run(100);
            b.is("full", b.x.channel(0, 1), depth);
            b.is("all the others are lost", b.x.channel(0, 4), 60 - depth);
            b.is("the first", b.x.wordAt(0, 0), 100);
            b.is("the last one kept", b.x.wordAt(0, depth - 1), 99 + depth);
        }
    }

    // CALLS: "Who waits at a channel is READY again when another partition has done its part, in that tick."
    private static void readyInThatTick(Bench b) {
        String text = "partition a { memory 256; " + P + "port o out queuing; } partition b { memory 256; " + P
                + "port i in queuing; } channel queuing 1 { a.o > b.i } ";
        b.fresh();
        b.load(text + "frame { b 6; a 5; }");
        b.program(1, 0, Bench.code(Bench.ask(19, 0, -1), Bench.STAY));
        b.program(0, 0, Bench.code(Bench.ask(18, 0, 9, 0), Bench.STAY));
        b.x.begin();
        b.x.run(10);
        b.is("b's WAITS", b.x.state(1, 0, 0), 2);
        b.x.run(1);
        b.is("READY in that tick", b.x.state(1, 0, 0), 1);
        b.is("with its word", b.x.register(1, 0, 11), 9);
        b.is("it goes on in its window", b.x.run(1), 1);
        b.is("it did one more", b.x.state(1, 0, 5), 6);
        b.fresh();
        b.load(text + "frame { a 10; b 5; }");
        b.program(0, 0, Bench.code(Bench.ask(18, 0, 8, 0), Bench.ask(18, 0, 9, -1), Bench.STAY));
        b.program(1, 0, Bench.code(Bench.ask(19, 0, 0), Bench.STAY));
        b.x.begin();
        b.x.run(14);
        b.is("a's WAITS", b.x.state(0, 0, 0), 2);
        b.x.run(1);
        b.is("READY in that tick", b.x.state(0, 0, 0), 1);
        b.is("its answer", b.x.register(0, 0, 10), 0);
        b.is("its word is there", b.x.wordAt(0, 0), 9);
        b.is("the first word was taken", b.x.register(1, 0, 11), 8);
    }
}
