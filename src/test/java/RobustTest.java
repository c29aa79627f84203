import java.util.Random;

/** No call throws but what the document names, whatever comes; some things hold at all times; a used object is as a new one. */
public final class RobustTest {
    private static final String[] NAMES = {"a", "b", "c", "d", "e", "late", "skip", "abcdefghijkl"};
    private static final int[] NUMBERS = {-2, -1, 0, 1, 2, 3, 4, 7, 8, 15, 16, 17, 31, 32, 60, 63, 64, 255, 256, 300, 500,
        501, 8192, 100000, 100001, Integer.MAX_VALUE, Integer.MIN_VALUE};

    private final Bench b = new Bench();
    private final Random some = new Random(20261116);

    public static void main(String[] args) {
        RobustTest test = new RobustTest();
        for (int n = 0; n < 300; n++) {
            test.spoiltText();
        }
        for (int n = 0; n < 150; n++) {
            test.someWorks();
        }
        for (int n = 0; n < 40; n++) {
            test.usedIsAsNew();
        }
        test.b.finish();
    }

    private int below(int n) {
        return some.nextInt(n);
    }

    private int number() {
        return below(3) == 0 ? NUMBERS[below(NUMBERS.length)] : below(6);
    }

    private String partition(int n) {
        StringBuilder text = new StringBuilder("partition " + NAMES[n] + " { memory 1024; ");
        if (below(3) == 0) {
            text.append("regions { 512 all; 256 code; 128 data; 128 table; } ");
        }
        boolean handler = below(2) == 0;
        int processes = 1 + below(5);
        for (int i = 0; i < processes; i++) {
            text.append("process p" + i + " { entry " + 64 * i + "; priority " + below(16) + "; ");
            text.append(below(3) == 0 ? "period " + (1 + below(40)) + "; " : "");
            text.append(below(2) == 0 ? "deadline " + (1 + below(60)) + "; " : "");
            text.append(below(4) == 0 ? "delay " + (1 + below(20)) + "; " : "");
            text.append(handler && i == 0 ? "handler; " : "").append(below(5) == 0 ? "stopped; } " : "} ");
        }
        for (int i = below(3); i >= 0; i--) {
            text.append("semaphore s" + i + " " + below(2) + " : " + (1 + below(3)) + (below(2) == 0 ? " fifo; " : "; "));
            text.append("event e" + i + "; buffer u" + i + " " + (1 + below(4)) + (below(2) == 0 ? " fifo; " : "; "));
            text.append("board o" + i + "; ");
        }
        text.append(below(2) == 0 ? "port i in queuing; port j out queuing; " : "port j out queuing; port i in queuing; ");
        text.append(below(2) == 0 ? "port k in sampling; port m in queuing; " : "port m in queuing; port k in sampling; ");
        text.append("port l out sampling; ");
        String[] kinds = {"illegal", "memory", "late", "raised", "align"};
        String[] actions = {"skip", "stop", "again", "warm", "cold", "idle", "handle"};
        text.append("errors { ");
        for (String kind : kinds) {
            text.append(kind + " : " + actions[below(3) > 0 ? below(3) : below(handler ? 7 : 6)] + "; ");
        }
        return text.append("} } ").toString();
    }

    private String configuration() {
        int n = 1 + below(3);
        StringBuilder text = new StringBuilder();
        for (int i = 0; i < n; i++) {
            text.append(partition(i));
        }
        text.append("channel queuing " + (1 + below(3)) + " { a.j > " + (below(3) == 0 ? "output } " : NAMES[n - 1] + ".i } "));
        text.append("channel sampling " + below(9) + " { a.l > " + NAMES[n - 1] + (below(2) == 0 ? ".k, output } " : ".k } "));
        text.append(below(2) == 0 ? "channel queuing 1 { input > a.m } " : "channel queuing 2 fifo { input > output } ");
        text.append("channel sampling 3 { input > output } frame { ");
        for (int i = 0; i < 3; i++) {
            text.append(NAMES[below(n)] + " " + (1 + below(20)) + "; ");
        }
        return text.append("}").toString();
    }

    private void spoiltText() {
        StringBuilder text = new StringBuilder(configuration());
        for (int n = below(3); n > 0; n--) {
            int at = below(text.length());
            switch (below(4)) {
                case 0: text.deleteCharAt(at); break;
                case 1: text.setCharAt(at, (char) below(256)); break;
                case 2: text.insert(at, " " + NAMES[below(NAMES.length)] + " "); break;
                default: text.setLength(at + 1); break;
            }
        }
        b.fresh();
        boolean fine = true;
        try {
            b.load(text.toString());
        } catch (IllegalArgumentException e) {
            fine = false;
        }
        b.is("a fault tells itself", b.x.fault(0) == 0 ? 1 : 0, fine ? 1 : 0);
        b.is("its place lies in the text", b.x.fault(1) <= text.length() && b.x.fault(1) >= (fine ? -1 : 0) ? 1 : 0, 1);
        b.is("no configuration", b.x.about(5) > 0 ? 1 : 0, fine ? 1 : 0);
    }

    private int someWord() {
        switch (below(8)) {
            case 0: return some.nextInt();
            case 1: return Bench.CALL;
            case 2: return Bench.jump(0, -4 * below(9));
            case 3: return Bench.fetch(below(6), 5 + below(4), 0, below(1030));
            case 4: return Bench.store(below(3), 5 + below(4), 0, 400 + below(630));
            case 5: return Bench.branch(below(8), below(32), below(32), 4 * below(6) - 8);
            default: return Bench.set(10 + below(8), below(9) - 2);
        }
    }

    private void programs(Bench b) {
        for (int p = 0; p < b.x.about(5); p++) {
            for (int at = 0; at < 384; at += 4) {
                if (below(4) == 0 && at + 20 < 384) {
                    b.program(p, at, Bench.ask(below(9) == 0 ? number() : below(37), number() << 20 >> 20, below(5) - 1,
                            below(7) - 1));
                    at += 16;
                } else {
                    b.x.image(p, at, someWord());
                }
            }
        }
    }

    private void someWorks() {
        b.fresh();
        b.load(configuration());
        programs(b);
        for (int t = 0; t < 50; t++) {
            b.x.input(below(2), 10 * t, t);
        }
        b.x.begin();
        for (int n = 0; n < 60; n++) {
            b.x.run(below(40));
            for (int p = 0; p < b.x.about(5); p++) {
                holds(p);
            }
            looks();
        }
    }

    /** One object has worked already, the other is new: the same calls give the same answers. */
    private void usedIsAsNew() {
        b.fresh();
        for (int round = 0; round < 3; round++) {
            Bench other = new Bench();
            String text = configuration();
            b.load(text);
            other.load(text);
            b.is("all as new", all(b.x), all(other.x));
            long seed = some.nextLong();
            some.setSeed(seed);
            programs(b);
            some.setSeed(seed);
            programs(other);
            for (int t = 0; t < 30; t++) {
                b.x.input(t % 2, 7 * t, t);
                other.x.input(t % 2, 7 * t, t);
            }
            b.x.begin();
            other.x.begin();
            for (int n = 0; n < 25; n++) {
                int ticks = 1 + below(20);
                b.is("done", b.x.run(ticks), other.x.run(ticks));
                b.is("all at " + b.x.about(0) + " of " + text, all(b.x), all(other.x));
            }
        }
    }

    /** A number made of all that can be asked. */
    private static long all(PartitionWorks x) {
        long sum = 0;
        for (int i = 0; i < 10; i++) {
            sum = sum * 31 + x.about(i);
        }
        for (int p = 0; p < 3; p++) {
            for (int i = 0; i < 14; i++) {
                sum = sum * 31 + x.partition(p, i);
            }
            for (int q = 0; q < 5; q++) {
                for (int i = 0; i < 32; i++) {
                    sum = (sum * 31 + x.register(p, q, i)) * 31 + x.state(p, q, i);
                }
            }
            for (int i = 0; i < 90; i++) {
                int sort = i / 18;
                int k = i / 3 % 6;
                sum = (sum * 31 + x.thing(p, sort, k)) * 31 + x.waiting(p, sort, k);
                sum = (sum * 31 + x.wordOf(p, sort, k, i % 3)) * 31 + x.region(p, k, i % 3);
            }
            for (int i = 0; i < 1024; i += 4) {
                sum = sum * 31 + x.peek(p, i);
            }
        }
        for (int i = 0; i < 30; i++) {
            sum = (sum * 31 + x.channel(i / 6, i % 6)) * 31 + x.wordAt(i / 6, i % 6);
            sum = (sum * 31 + x.trace(i / 3, i % 3)) * 31 + x.error(i / 6, i % 6);
        }
        return sum;
    }

    /** What is so at all times, by the document's words. */
    private void holds(int p) {
        int faulted = 0;
        int waiting = 0;
        for (int i = 0; i < b.x.partition(p, 2); i++) {
            int state = b.x.state(p, i, 0);
            faulted += state == 3 ? 1 : 0;
            waiting += state == 2 ? 1 : 0;
            b.is("x0", b.x.register(p, i, 0), 0);
            b.is("who is DORMANT has no DUE", state == 0 && b.x.state(p, i, 3) != -1 ? 1 : 0, 0);
            b.is("who is DORMANT or FAULTED is not HELD", (state == 0 || state == 3) && b.x.state(p, i, 8) != 0 ? 1 : 0, 0);
            b.is("only who WAITS has such a time", state != 2 && b.x.state(p, i, 4) != -1 ? 1 : 0, 0);
            b.is("the handler never waits", b.x.state(p, i, 7) == 1 && state > 1 ? 1 : 0, 0);
            b.is("IDLE", b.x.partition(p, 0) == 1 ? state : 0, 0);
        }
        b.is("one is FAULTED at most", faulted > 1 ? 1 : 0, 0);
        int counted = 0;
        for (int sort = 0; sort < 5; sort++) {
            for (int k = 0; k < b.x.partition(p, 3 + sort); k++) {
                counted += b.x.waiting(p, sort, k);
            }
        }
        b.is("who is counted WAITS", counted > waiting ? 1 : 0, 0);
        int next = b.x.partition(p, 10);
        b.is("who is next is READY", next == -1 ? 1 : b.x.state(p, next, 0), 1);
        b.is("nor HELD", next == -1 ? 0 : b.x.state(p, next, 8), 0);
        b.is("a semaphore has no count while one waits", b.x.waiting(p, 0, 0) > 0 ? b.x.thing(p, 0, 0) : 0, 0);
        b.is("a LOCKED partition has somebody who runs", b.x.partition(p, 9) > 0 && next == -1 ? 1 : 0, 0);
    }

    private void looks() {
        int i = number();
        int j = number();
        int k = number();
        int l = number();
        b.x.peek(i, j);
        b.x.register(i, j, k);
        b.x.state(i, j, k);
        b.x.partition(i, j);
        b.x.thing(i, j, k);
        b.x.waiting(i, j, k);
        b.x.region(i, j, k);
        b.x.wordOf(i, j, k, l);
        b.x.channel(i, j);
        b.x.wordAt(i, j);
        b.x.trace(i, j);
        b.x.error(i, j);
        b.x.about(i);
        b.x.fault(i);
        if (i < 0 || i > 500) {
            b.refuses("run " + i, IllegalArgumentException.class, () -> b.x.run(i));
        }
        b.refuses("image", IllegalStateException.class, () -> b.x.image(i, j, k));
        b.refuses("input", IllegalStateException.class, () -> b.x.input(i, j, k));
        b.refuses("begin", IllegalStateException.class, () -> b.x.begin());
    }
}
