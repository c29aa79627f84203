import java.util.ArrayList;
import java.util.List;

/** What the tests share: an object under test, a feeder of texts, a tiny assembler, and checks. */
final class Bench {
    static final int CALL = 115;
    /** A jump to itself. */
    static final int STAY = jump(0, 0);
    static final int NONE = PartitionWorks.NONE;

    PartitionWorks x = new PartitionWorks();
    private int wrong;
    private int checks;

    void fresh() {
        x = new PartitionWorks();
    }

    // Checks

    void is(String what, long got, long want) {
        checks++;
        if (got != want) {
            wrong++;
            System.out.println(what + ": " + got + ", due is " + want);
        }
    }

    void refuses(String what, Class<? extends RuntimeException> want, Runnable call) {
        checks++;
        String got = "nothing";
        try {
            call.run();
        } catch (RuntimeException e) {
            got = e.getClass().getSimpleName();
        }
        if (!got.equals(want.getSimpleName())) {
            wrong++;
            System.out.println(what + ": threw " + got + ", due is " + want.getSimpleName());
        }
    }

    void isState(String what, int partition, int process, int... wants) {
        for (int i = 0; i < wants.length; i++) {
            is(what + ", state " + i, x.state(partition, process, i), wants[i]);
        }
    }

    void isRegister(String what, int process, int register, int want) {
        is(what + ", x" + register + " of process " + process, x.register(0, process, register), want);
    }

    void isError(String what, int k, int... wants) {
        for (int i = 0; i < wants.length; i++) {
            is(what + ", error(" + k + ", " + i + ")", x.error(k, i), wants[i]);
        }
    }

    void isTrace(String what, int k, int... wants) {
        for (int i = 0; i < wants.length; i++) {
            is(what + ", trace(" + k + ", " + i + ")", x.trace(k, i), wants[i]);
        }
    }

    void finish() {
        if (wrong != 0 || checks == 0) {
            System.out.println(wrong + " of " + checks + " answers are not as due");
            System.exit(1);
        }
    }

    // Texts

    void text(String text) {
        for (int at = 0; at < text.length(); at += 20) {
            int n = Math.min(20, text.length() - at);
            int[] words = new int[5];
            for (int i = 0; i < n; i++) {
                words[i / 4] |= (text.charAt(at + i) & 255) << 24 - 8 * (i % 4);
            }
            x.feed(words[0], words[1], words[2], words[3], words[4]);
            x.end(n);
        }
    }

    int load(String text) {
        text(text);
        return x.load();
    }

    /** A text that must be fine. */
    void fine(String text) {
        checks++;
        fresh();
        try {
            load(text);
            is(text + " fault", x.fault(0), 0);
            is(text + " place", x.fault(1), NONE);
        } catch (IllegalArgumentException e) {
            wrong++;
            System.out.println(text + ": refused for " + x.fault(0) + " at " + x.fault(1));
        }
    }

    /** A text that must be refused; a ^ in it tells where. */
    void faulty(int fault, String marked) {
        int place = marked.indexOf('^');
        String text = marked.substring(0, place) + marked.substring(place + 1);
        fresh();
        refuses(marked, IllegalArgumentException.class, () -> load(text));
        is(marked + " fault", x.fault(0), fault);
        is(marked + " place", x.fault(1), place);
        is(marked + " partitions", x.about(5), 0);
    }

    static String times(int n, String part) {
        StringBuilder all = new StringBuilder();
        for (int i = 0; i < n; i++) {
            all.append(part.replace("#", String.valueOf(i)));
        }
        return all.toString();
    }

    /** One partition a of 1024 bytes with the things told, which has all the time. */
    void alone(String things) {
        fresh();
        load("partition a { memory 1024; " + things + " } frame { a 10; }");
    }

    // Programs

    void program(int partition, int place, int... words) {
        for (int i = 0; i < words.length; i++) {
            x.image(partition, place + 4 * i, words[i]);
        }
    }

    static int[] code(Object... parts) {
        List<Integer> words = new ArrayList<>();
        for (Object part : parts) {
            if (part instanceof Integer) {
                words.add((Integer) part);
            } else {
                for (int word : (int[]) part) {
                    words.add(word);
                }
            }
        }
        int[] all = new int[words.size()];
        for (int i = 0; i < all.length; i++) {
            all[i] = words.get(i);
        }
        return all;
    }

    static int withNumber(int f3, int rd, int r, int i) {
        return i << 20 | r << 15 | f3 << 12 | rd << 7 | 19;
    }

    static int withRegister(int f7, int f3, int rd, int r, int s) {
        return f7 << 25 | s << 20 | r << 15 | f3 << 12 | rd << 7 | 51;
    }

    static int set(int rd, int i) {
        return withNumber(0, rd, 0, i);
    }

    static int copy(int rd, int r) {
        return withNumber(0, rd, r, 0);
    }

    static int upper(int rd, int u) {
        return u & -4096 | rd << 7 | 55;
    }

    /** Two instructions for any number. */
    static int[] setLong(int rd, int value) {
        int low = value << 20 >> 20;
        return new int[] {upper(rd, value - low), withNumber(0, rd, rd, low)};
    }

    static int jump(int rd, int by) {
        return (by >> 20 & 1) << 31 | (by >> 1 & 1023) << 21 | (by >> 11 & 1) << 20 | (by >> 12 & 255) << 12
                | rd << 7 | 111;
    }

    static int branch(int f3, int r, int s, int by) {
        return (by >> 12 & 1) << 31 | (by >> 5 & 63) << 25 | s << 20 | r << 15 | f3 << 12
                | (by >> 1 & 15) << 8 | (by >> 11 & 1) << 7 | 99;
    }

    static int fetch(int f3, int rd, int r, int i) {
        return i << 20 | r << 15 | f3 << 12 | rd << 7 | 3;
    }

    static int store(int f3, int s, int r, int i) {
        return (i >> 5) << 25 | s << 20 | r << 15 | f3 << 12 | (i & 31) << 7 | 35;
    }

    /** A call with small numbers in x10, x11, x12: five instructions, the call itself the fifth. */
    static int[] ask(int number, int a, int b, int c) {
        return new int[] {set(10, a), set(11, b), set(12, c), set(17, number), CALL};
    }

    static int[] ask(int number, int a, int b) {
        return ask(number, a, b, 0);
    }

    static int[] ask(int number, int a) {
        return ask(number, a, 0, 0);
    }

    static int[] ask(int number) {
        return ask(number, 0, 0, 0);
    }

    /** A call with any numbers in x10, x11, x12, x17: nine instructions, the call itself the ninth. */
    static int[] askLong(int number, int a, int b, int c) {
        return code(setLong(10, a), setLong(11, b), setLong(12, c), setLong(17, number), CALL);
    }

    /** What a call answers process 0 of a configuration that stands, done at time 8; it runs from place 0. */
    int called(int number, int a, int b, int c) {
        program(0, 0, code(askLong(number, a, b, c), STAY));
        x.begin();
        x.run(9);
        return x.register(0, 0, 10);
    }

    /** The same in a partition with the things told, the first of them process 0. */
    int asked(String things, int number, int a, int b, int c) {
        alone(things);
        return called(number, a, b, c);
    }

    /** What a call answers the handler, process 1, done at time 9, while process 0 is FAULTED. */
    int handlerAsked(String things, int number, int a, int b, int c) {
        alone("process p { entry 0; priority 5; } process h { entry 768; priority 0; handler; } " + things
                + " errors { illegal : handle; }");
        program(0, 768, code(askLong(number, a, b, c), STAY));
        x.begin();
        x.run(10);
        return x.register(0, 1, 10);
    }

    /** Asks in a partition with the things told, alone, with nothing else that runs; checks x10. */
    void answers(String what, int want, int number, int a, int b, int c) {
        program(0, 0, code(ask(number, a, b, c), STAY));
        x.begin();
        x.run(5);
        isRegister(what, 0, 10, want);
    }
}
