import java.util.Arrays;

/** A works for partitions: read from a text, run tick by tick in windows of time. */
public final class PartitionWorks {
    public static final int NONE = -1;

    private static final int TEXT_LIMIT = 4000;
    private static final int READY_BYTES = 20;
    private static final int LONGEST_RUN = 500;
    private static final int LONGEST_TIME = 100000;
    private static final int MOST_PARTITIONS = 16;
    private static final int MOST_PROCESSES = 16;
    private static final int MOST_PORTS = 16;
    private static final int MOST_OTHERS = 8;
    private static final int MOST_REGIONS = 6;
    private static final int MOST_CHANNELS = 24;
    private static final int MOST_GOALS = 4;
    private static final int MOST_WINDOWS = 24;
    private static final int MOST_INPUTS = 60;
    private static final int MOST_LOCKS = 8;
    private static final int LONGEST_NAME = 12;

    private static final int DORMANT = 0;
    private static final int READY = 1;
    private static final int WAITING = 2;
    private static final int FAULTED = 3;

    private static final int NORMAL = 0;
    private static final int IDLE = 1;

    private static final int BY_BEGIN = 0;
    private static final int BY_WARM_CALL = 1;
    private static final int BY_COLD_CALL = 2;
    private static final int BY_ERROR = 3;

    private static final int ILLEGAL = 0;
    private static final int MEMORY = 1;
    private static final int LATE = 2;
    private static final int RAISED = 3;
    private static final int ALIGN = 4;
    private static final int KINDS = 5;
    /** What the machine answers, beside the kinds of errors, when it met a call. */
    private static final int CALLED = 5;
    private static final int CALL_WORD = 115;

    private static final int SKIP = 0;
    private static final int STOP = 1;
    private static final int AGAIN = 2;
    private static final int WARM = 3;
    private static final int COLD = 4;
    private static final int TO_IDLE = 5;
    private static final int HANDLE = 6;

    private static final int SEMAPHORE = 0;
    private static final int EVENT = 1;
    private static final int BUFFER = 2;
    private static final int BOARD = 3;
    private static final int PORT = 4;
    private static final int SORTS = 5;
    private static final int PROCESS = 5;

    /** What a process waits for: a thing's slot (to take), PUTS more (to put), or one of these. */
    private static final int SLOTS = SORTS * MOST_OTHERS + MOST_OTHERS;
    private static final int PUTS = 64;
    private static final int FOR_TIME = 128;
    private static final int FOR_GO = 129;

    private static final int CODE_REGION = 0;
    private static final int DATA_REGION = 1;
    private static final int ALL_REGION = 3;

    private final Reader reader;
    private final Plan plan;
    private final Machine machine;
    private final Calls calls;
    private final byte[] ready;

    public PartitionWorks() {
        reader = new Reader();
        plan = reader.plan;
        machine = new Machine();
        calls = new Calls();
        ready = new byte[READY_BYTES];
    }

    public void feed(int a, int b, int c, int d, int e) {
        putReady(0, a);
        putReady(4, b);
        putReady(8, c);
        putReady(12, d);
        putReady(16, e);
    }

    private void putReady(int at, int word) {
        for (int i = 0; i < 4; i++) {
            if (at >= 0 && at + i < READY_BYTES) {
                ready[at + i] = (byte) (word >> 24 - 8 * i);
            }
        }
    }

    public int end(int n) {
        if (n < 0 || n > READY_BYTES || !reader.takeIn(ready, n)) {
            return NONE;
        }
        Arrays.fill(ready, (byte) 0);
        return reader.length;
    }

    public int load() throws IllegalArgumentException {
        reader.read();
        return plan.partitionCount;
    }

    public int fault(int what) {
        if (what == 0) {
            return reader.fault;
        }
        return what == 1 ? reader.faultPlace : NONE;
    }

    public void image(int partition, int place, int word)
            throws IndexOutOfBoundsException, IllegalStateException {
        if (!plan.loaded || plan.begun) {
            throw new IllegalStateException("not while it runs, or without a configuration");
        }
        Partition p = plan.partitionAt(partition);
        if (p == null || !p.memory.hasWord(place)) {
            throw new IndexOutOfBoundsException("no such partition or place");
        }
        p.memory.image[place >> 2] = word;
    }

    public void input(int k, int time, int word)
            throws IndexOutOfBoundsException, IllegalArgumentException, IllegalStateException {
        if (!plan.loaded || plan.begun) {
            throw new IllegalStateException("not while it runs, or without a configuration");
        }
        Channel c = plan.inputAt(k);
        if (c == null) {
            throw new IndexOutOfBoundsException("no such channel from input");
        }
        if (time < 0 || time <= c.latestInput()) {
            throw new IllegalArgumentException("the time is not above the latest");
        }
        if (c.inputCount >= MOST_INPUTS) {
            throw new IllegalStateException("there are 60 of it");
        }
        c.addInput(time, word);
    }

    public void begin() throws IllegalStateException {
        if (!plan.loaded || plan.begun) {
            throw new IllegalStateException("it has begun, or there is no configuration");
        }
        plan.begun = true;
        for (int i = 0; i < plan.partitionCount; i++) {
            plan.partitions[i].beginAnew(true, BY_BEGIN, 0);
        }
    }

    public int run(int n) throws IllegalStateException, IllegalArgumentException {
        if (!plan.begun) {
            throw new IllegalStateException("it has not begun");
        }
        if (n < 0 || n > LONGEST_RUN) {
            throw new IllegalArgumentException("n is not 0 .. 500");
        }
        int before = plan.done;
        for (int i = 0; i < n; i++) {
            plan.takeInputs();
            turn(plan.partitionAt(plan.partitionNow()));
            plan.time++;
        }
        return plan.done - before;
    }

    private void turn(Partition p) {
        if (p == null || p.mode != NORMAL) {
            return;
        }
        p.wakeUntil(plan.time);
        if (!lateOnesDealtWith(p)) {
            return;
        }
        Process who = p.chosen();
        if (who == null) {
            return;
        }
        who.done++;
        p.done++;
        plan.done++;
        int kind = machine.step(who, p.memory);
        int code = machine.code;
        if (kind == CALLED) {
            kind = calls.answer(plan, p, who);
            code = kind == RAISED ? who.x[10] : CALL_WORD;
        }
        if (kind != NONE) {
            goWrong(p, who, kind, code);
        }
    }

    /** False when an action took the whole partition, which ends the tick. */
    private boolean lateOnesDealtWith(Partition p) {
        for (int i = 0; i < p.processCount; i++) {
            Process q = p.processes[i];
            if (q.due != NONE && q.due < plan.time) {
                int due = q.due;
                q.due = NONE;
                int action = goWrong(p, q, LATE, due);
                if (action >= WARM && action <= TO_IDLE) {
                    return false;
                }
            }
        }
        return true;
    }

    private int goWrong(Partition p, Process q, int kind, int code) {
        int action = p.actionFor(q, kind);
        plan.journal.note(plan.time, p.number, q.number, kind, action, code);
        switch (action) {
            case STOP:
                p.rest(q);
                break;
            case AGAIN:
                p.start(q, plan.time, plan.time);
                break;
            case WARM:
            case COLD:
                p.beginAnew(action == COLD, BY_ERROR, plan.time);
                break;
            case TO_IDLE:
                p.goIdle();
                break;
            case HANDLE:
                p.handOver(q, kind, code, plan.time);
                break;
            default:
                if (kind != LATE) {
                    q.pc += 4;
                }
                break;
        }
        return action;
    }

    public int peek(int partition, int place) {
        Partition p = plan.partitionAt(partition);
        if (p == null || !p.memory.hasWord(place)) {
            return 0;
        }
        return plan.begun ? p.memory.words[place >> 2] : p.memory.image[place >> 2];
    }

    public int register(int partition, int process, int x) {
        Process q = plan.processAt(partition, process);
        return q == null || x < 0 || x > 31 ? 0 : q.x[x];
    }

    public int state(int partition, int process, int what) {
        Process q = plan.processAt(partition, process);
        if (q == null) {
            return NONE;
        }
        switch (what) {
            case 0:
                return q.state;
            case 1:
                return q.pc;
            case 2:
                return q.priority;
            case 3:
                return q.due;
            case 4:
                return q.until;
            case 5:
                return q.done;
            case 6:
                return q.release;
            case 7:
                return q.handler ? 1 : 0;
            case 8:
                return q.held ? 1 : 0;
            default:
                return NONE;
        }
    }

    public int partition(int partition, int what) {
        Partition p = plan.partitionAt(partition);
        if (p == null) {
            return NONE;
        }
        if (what >= 3 && what < 3 + SORTS) {
            return p.counts[what - 3];
        }
        switch (what) {
            case 0:
                return p.mode;
            case 1:
                return p.memory.bytes;
            case 2:
                return p.processCount;
            case 8:
                return p.begun;
            case 9:
                return p.locks;
            case 10:
                Process next = p.chosen();
                return next == null ? NONE : next.number;
            case 11:
                return p.how;
            case 12:
                return p.memory.regions;
            case 13:
                return p.done;
            default:
                return NONE;
        }
    }

    public int thing(int partition, int sort, int k) {
        Thing t = plan.thingAt(partition, sort, k);
        if (t == null) {
            return NONE;
        }
        return sort == PORT ? t.channel : t.value();
    }

    public int waiting(int partition, int sort, int k) {
        Partition p = plan.partitionAt(partition);
        if (p == null || p.thingAt(sort, k) == null) {
            return NONE;
        }
        return p.countWaiting(sort * MOST_OTHERS + k);
    }

    public int region(int partition, int k, int what) {
        Partition p = plan.partitionAt(partition);
        if (p == null || k < 0 || k >= p.memory.regions) {
            return NONE;
        }
        switch (what) {
            case 0:
                return p.memory.firstOf(k);
            case 1:
                return p.memory.ends[k] - p.memory.firstOf(k);
            case 2:
                return p.memory.sorts[k];
            default:
                return NONE;
        }
    }

    public int wordOf(int partition, int sort, int k, int i) {
        Thing t = plan.thingAt(partition, sort, k);
        if (t == null) {
            return 0;
        }
        if (t.queue != null) {
            return t.queue.at(i);
        }
        return sort == BOARD && t.count != 0 && i == 0 ? t.word : 0;
    }

    public int channel(int channel, int what) {
        Channel c = plan.channelAt(channel);
        if (c == null) {
            return NONE;
        }
        switch (what) {
            case 0:
                return c.queuing ? 1 : 0;
            case 1:
                return c.queue.count;
            case 2:
                return c.limit;
            case 3:
                return c.stamp;
            case 4:
                return c.lost;
            case 5:
                return c.goals;
            default:
                return NONE;
        }
    }

    public int wordAt(int channel, int i) {
        Channel c = plan.channelAt(channel);
        return c == null ? 0 : c.queue.at(i);
    }

    public int trace(int k, int what) {
        return plan.journal.shown(k, what);
    }

    public int error(int k, int what) {
        return plan.journal.noted(k, what);
    }

    public int about(int what) {
        switch (what) {
            case 0:
                return plan.time;
            case 1:
                return plan.journal.errorCount;
            case 2:
                return plan.done;
            case 3:
                return plan.begun ? plan.partitionNow() : NONE;
            case 4:
                return plan.journal.traceCount;
            case 5:
                return plan.partitionCount;
            case 6:
                return plan.channelCount;
            case 7:
                return plan.windowCount;
            case 8:
                return plan.inputCount;
            case 9:
                return plan.outputCount;
            default:
                return NONE;
        }
    }

    /** The digit that a character is in a name reckoned as a number to the base 37; 0 if it is none. */
    private static int nameDigit(int c) {
        if (c >= 'a' && c <= 'z') {
            return c - 'a' + 1;
        }
        return c >= '0' && c <= '9' ? c - '0' + 27 : 0;
    }

    /** Reads the text in hand into a plan; the first fault ends it. */
    private static final class Reader {
        private static final int END = 0;
        private static final int BAD = 1;
        private static final int NAME = 2;
        private static final int NUMBER = 3;
        private static final int SIGN = 4;
        private static final int WORD = 5;

        private static final String SIGNS = "{};:.,>";
        private static final String WORDS = "partition memory regions code data table all process entry priority period deadline delay handler stopped semaphore event buffer fifo board port in out errors channel sampling queuing input output frame ";
        private static final String KINDS_AND_ACTIONS = "illegal late raised align skip stop again warm cold idle handle ";
        private static final int KEY_COUNT = 41;

        private static final int KEY_PARTITION = 0;
        private static final int KEY_MEMORY = 1;
        private static final int KEY_REGIONS = 2;
        private static final int KEY_CODE = 3;
        private static final int KEY_ALL = 6;
        private static final int KEY_PROCESS = 7;
        private static final int KEY_ENTRY = 8;
        private static final int KEY_PRIORITY = 9;
        private static final int KEY_PERIOD = 10;
        private static final int KEY_DEADLINE = 11;
        private static final int KEY_DELAY = 12;
        private static final int KEY_HANDLER = 13;
        private static final int KEY_STOPPED = 14;
        private static final int KEY_SEMAPHORE = 15;
        private static final int KEY_EVENT = 16;
        private static final int KEY_BUFFER = 17;
        private static final int KEY_FIFO = 18;
        private static final int KEY_BOARD = 19;
        private static final int KEY_PORT = 20;
        private static final int KEY_IN = 21;
        private static final int KEY_OUT = 22;
        private static final int KEY_ERRORS = 23;
        private static final int KEY_CHANNEL = 24;
        private static final int KEY_SAMPLING = 25;
        private static final int KEY_QUEUING = 26;
        private static final int KEY_INPUT = 27;
        private static final int KEY_OUTPUT = 28;
        private static final int KEY_FRAME = 29;
        /** From here on the keys are names, which tell a kind or an action where one must stand. */
        private static final int KEY_ILLEGAL = 30;
        private static final int KEY_LATE = 31;
        private static final int KEY_RAISED = 32;
        private static final int KEY_ALIGN = 33;
        private static final int KEY_SKIP = 34;
        private static final int KEY_HANDLE = 40;

        private static final int MUST_NOT_STAND = 1;
        private static final int NO_WORD = 2;
        private static final int NAME_ANEW = 3;
        private static final int TOO_MANY = 4;
        private static final int BAD_NUMBER = 5;
        private static final int UNKNOWN_NAME = 6;
        private static final int AGAINST_RULE = 7;

        final Plan plan = new Plan();
        private final long[] keys;
        private final byte[] text = new byte[TEXT_LIMIT];
        int length;
        int fault;
        int faultPlace = NONE;
        private int bytes;
        private int at;
        private int kind;
        private int value;
        private long name;
        private int place;
        private boolean errorsSeen;
        private int handlePlace;

        Reader() {
            keys = allKeys();
        }

        private static long[] allKeys() {
            long[] all = new long[KEY_COUNT];
            addKeys(all, 0, WORDS);
            addKeys(all, KEY_ILLEGAL, KINDS_AND_ACTIONS);
            return all;
        }

        private static void addKeys(long[] to, int from, String words) {
            int k = from;
            for (int i = 0; i < words.length(); i++) {
                int digit = nameDigit(words.charAt(i));
                if (digit == 0) {
                    k++;
                } else if (k >= 0 && k < to.length) {
                    to[k] = to[k] * 37 + digit;
                }
            }
        }

        boolean takeIn(byte[] from, int n) {
            if (n < 0 || n > from.length || length + n > TEXT_LIMIT) {
                return false;
            }
            System.arraycopy(from, 0, text, length, n);
            length += n;
            return true;
        }

        void read() {
            bytes = length;
            length = 0;
            at = 0;
            fault = 0;
            faultPlace = NONE;
            plan.clear();
            advance();
            for (int n = 0; n <= TEXT_LIMIT && (n == 0 || sees(KEY_PARTITION)); n++) {
                readThings(readHead());
            }
            for (int n = 0; n <= TEXT_LIMIT && sees(KEY_CHANNEL); n++) {
                readChannel();
            }
            readFrame();
            plan.loaded = true;
        }

        private void fail(int what, int where) {
            fault = what;
            faultPlace = where;
            plan.forget();
            throw new IllegalArgumentException("a fault of the configuration");
        }

        /** To the next word. All that is to be said of the one at hand must have been said. */
        private void advance() {
            while (at < bytes && (text[at] == ' ' || text[at] == '\n')) {
                at++;
            }
            place = at;
            value = NONE;
            if (at >= bytes) {
                kind = END;
                return;
            }
            int c = text[at];
            if (c >= 'a' && c <= 'z') {
                scanName();
            } else if (c >= '0' && c <= '9') {
                scanNumber();
            } else {
                at++;
                value = c;
                kind = c > 0 && SIGNS.indexOf((char) c) >= 0 ? SIGN : BAD;
            }
            if (kind == BAD) {
                fail(NO_WORD, place);
            }
        }

        private void scanName() {
            name = 0;
            while (at < bytes && nameDigit(text[at]) != 0) {
                name = name * 37 + nameDigit(text[at]);
                at++;
            }
            kind = at - place > LONGEST_NAME ? BAD : NAME;
            if (kind == BAD) {
                return;
            }
            for (int i = 0; i < KEY_COUNT; i++) {
                if (keys[i] == name) {
                    value = i;
                    kind = i < KEY_ILLEGAL ? WORD : NAME;
                }
            }
        }

        private void scanNumber() {
            value = 0;
            while (at < bytes && text[at] >= '0' && text[at] <= '9') {
                value = at - place < 6 ? value * 10 + text[at] - '0' : value;
                at++;
            }
            kind = at - place > 6 ? BAD : NUMBER;
        }

        private boolean sees(int key) {
            return kind == WORD && value == key;
        }

        private boolean seesSign(char sign) {
            return kind == SIGN && value == sign;
        }

        private boolean takes(int key) {
            if (!sees(key)) {
                return false;
            }
            advance();
            return true;
        }

        private void expect(int key) {
            if (!sees(key)) {
                fail(MUST_NOT_STAND, place);
            }
            advance();
        }

        private void expectSign(char sign) {
            if (!seesSign(sign)) {
                fail(MUST_NOT_STAND, place);
            }
            advance();
        }

        private int number(int least, int most, int step) {
            if (kind != NUMBER) {
                fail(MUST_NOT_STAND, place);
            }
            if (value < least || value > most || step > 0 && value % step != 0) {
                fail(BAD_NUMBER, place);
            }
            int found = value;
            advance();
            return found;
        }

        private Partition readHead() {
            expect(KEY_PARTITION);
            if (plan.partitionCount >= MOST_PARTITIONS) {
                fail(TOO_MANY, place);
            }
            if (kind != NAME) {
                fail(MUST_NOT_STAND, place);
            }
            if (plan.partitionNamed(name) != NONE) {
                fail(NAME_ANEW, place);
            }
            Partition p = plan.addPartition(name);
            advance();
            expectSign('{');
            expect(KEY_MEMORY);
            p.memory.setBytes(number(256, 8192, 256));
            expectSign(';');
            if (sees(KEY_REGIONS)) {
                readRegions(p.memory);
            } else {
                p.memory.addRegion(p.memory.bytes, ALL_REGION);
            }
            return p;
        }

        private void readRegions(Memory m) {
            int start = place;
            advance();
            expectSign('{');
            for (int n = 0; n <= MOST_REGIONS; n++) {
                if (n > 0 && seesSign('}')) {
                    break;
                }
                if (m.regions >= MOST_REGIONS) {
                    fail(TOO_MANY, place);
                }
                int size = number(64, m.bytes - m.covered(), 64);
                if (kind != WORD || value < KEY_CODE || value > KEY_ALL) {
                    fail(MUST_NOT_STAND, place);
                }
                m.addRegion(size, value - KEY_CODE);
                advance();
                expectSign(';');
            }
            if (m.covered() != m.bytes) {
                fail(AGAINST_RULE, start);
            }
            expectSign('}');
        }

        private void readThings(Partition p) {
            errorsSeen = false;
            handlePlace = NONE;
            for (int n = 0; n <= TEXT_LIMIT && !seesSign('}'); n++) {
                switch (kind == WORD ? value : NONE) {
                    case KEY_PROCESS:
                        readProcess(p);
                        break;
                    case KEY_SEMAPHORE:
                        readSemaphore(p);
                        break;
                    case KEY_EVENT:
                        readNewThing(p, EVENT);
                        expectSign(';');
                        break;
                    case KEY_BUFFER:
                        readBuffer(p);
                        break;
                    case KEY_BOARD:
                        readNewThing(p, BOARD);
                        expectSign(';');
                        break;
                    case KEY_PORT:
                        readPort(p);
                        break;
                    case KEY_ERRORS:
                        readErrors(p);
                        break;
                    default:
                        fail(MUST_NOT_STAND, place);
                        break;
                }
            }
            if (handlePlace != NONE && p.handler == NONE) {
                fail(AGAINST_RULE, handlePlace);
            }
            advance();
        }

        private void checkNewName(Partition p, boolean full) {
            if (full) {
                fail(TOO_MANY, place);
            }
            if (kind != NAME) {
                fail(MUST_NOT_STAND, place);
            }
            if (p.knows(name)) {
                fail(NAME_ANEW, place);
            }
        }

        private Thing readNewThing(Partition p, int sort) {
            advance();
            checkNewName(p, p.isFull(sort));
            Thing t = p.addThing(sort, name);
            advance();
            return t;
        }

        private void readProcess(Partition p) {
            advance();
            checkNewName(p, p.isFull(PROCESS));
            Process q = p.addProcess(name);
            advance();
            expectSign('{');
            expect(KEY_ENTRY);
            q.entry = number(0, p.memory.bytes - 4, 4);
            expectSign(';');
            expect(KEY_PRIORITY);
            q.priority = number(0, 15, 1);
            expectSign(';');
            if (takes(KEY_PERIOD)) {
                q.period = number(1, LONGEST_TIME, 1);
                expectSign(';');
            }
            if (takes(KEY_DEADLINE)) {
                q.deadline = number(1, LONGEST_TIME, 1);
                expectSign(';');
            }
            if (takes(KEY_DELAY)) {
                q.delay = number(1, LONGEST_TIME, 1);
                expectSign(';');
            }
            if (sees(KEY_HANDLER)) {
                if (p.handler != NONE) {
                    fail(AGAINST_RULE, place);
                }
                p.handler = q.number;
                q.handler = true;
                advance();
                expectSign(';');
            }
            if (takes(KEY_STOPPED)) {
                q.stopped = true;
                expectSign(';');
            }
            expectSign('}');
        }

        private void readSemaphore(Partition p) {
            Thing t = readNewThing(p, SEMAPHORE);
            t.first = number(0, 100, 1);
            t.count = t.first;
            expectSign(':');
            t.most = number(Math.max(1, t.first), 100, 1);
            t.fifo = takes(KEY_FIFO);
            expectSign(';');
        }

        private void readBuffer(Partition p) {
            Thing t = readNewThing(p, BUFFER);
            int depth = number(1, 16, 1);
            if (t.queue != null) {
                t.queue.setDepth(depth);
            }
            t.fifo = takes(KEY_FIFO);
            expectSign(';');
        }

        private void readPort(Partition p) {
            Thing t = readNewThing(p, PORT);
            t.out = sees(KEY_OUT);
            if (!t.out && !sees(KEY_IN)) {
                fail(MUST_NOT_STAND, place);
            }
            advance();
            t.queuing = readIsQueuing();
            expectSign(';');
        }

        private boolean readIsQueuing() {
            boolean queuing = sees(KEY_QUEUING);
            if (!queuing && !sees(KEY_SAMPLING)) {
                fail(MUST_NOT_STAND, place);
            }
            advance();
            return queuing;
        }

        private void readErrors(Partition p) {
            if (errorsSeen) {
                fail(AGAINST_RULE, place);
            }
            errorsSeen = true;
            advance();
            expectSign('{');
            int seen = 0;
            for (int n = 0; n <= KINDS; n++) {
                if (n > 0 && seesSign('}')) {
                    break;
                }
                int error = errorKind();
                if (error == NONE) {
                    fail(MUST_NOT_STAND, place);
                }
                if ((seen >> error & 1) != 0) {
                    fail(AGAINST_RULE, place);
                }
                seen |= 1 << error;
                advance();
                expectSign(':');
                p.setAction(error, readAction());
                expectSign(';');
            }
            expectSign('}');
        }

        private int errorKind() {
            if (sees(KEY_MEMORY)) {
                return MEMORY;
            }
            switch (kind == NAME ? value : NONE) {
                case KEY_ILLEGAL:
                    return ILLEGAL;
                case KEY_LATE:
                    return LATE;
                case KEY_RAISED:
                    return RAISED;
                case KEY_ALIGN:
                    return ALIGN;
                default:
                    return NONE;
            }
        }

        private int readAction() {
            if (kind != NAME || value < KEY_SKIP || value > KEY_HANDLE) {
                fail(MUST_NOT_STAND, place);
            }
            if (value == KEY_HANDLE && handlePlace == NONE) {
                handlePlace = place;
            }
            int action = value - KEY_SKIP;
            advance();
            return action;
        }

        private void readChannel() {
            if (plan.channelCount >= MOST_CHANNELS) {
                fail(TOO_MANY, place);
            }
            advance();
            Channel c = plan.addChannel(readIsQueuing());
            c.setLimit(c.queuing ? number(1, 32, 1) : number(0, LONGEST_TIME, 1));
            c.fifo = c.queuing && takes(KEY_FIFO);
            expectSign('{');
            readSource(c);
            expectSign('>');
            readGoal(c);
            for (int n = 0; n < MOST_GOALS && !c.queuing && seesSign(','); n++) {
                advance();
                if (c.goals >= MOST_GOALS) {
                    fail(TOO_MANY, place);
                }
                readGoal(c);
            }
            expectSign('}');
        }

        private void readSource(Channel c) {
            if (takes(KEY_INPUT)) {
                plan.addInput(c);
                return;
            }
            Partition p = readPartitionName();
            expectSign('.');
            c.source = p;
            c.sourceSlot = readPortName(p, c, true);
        }

        private void readGoal(Channel c) {
            c.goals++;
            if (takes(KEY_OUTPUT)) {
                plan.addOutput(c);
                return;
            }
            Partition p = readPartitionName();
            expectSign('.');
            c.goal = p;
            c.goalSlot = readPortName(p, c, false);
        }

        private Partition readPartitionName() {
            if (kind != NAME) {
                fail(MUST_NOT_STAND, place);
            }
            int number = plan.partitionNamed(name);
            if (number == NONE) {
                fail(UNKNOWN_NAME, place);
            }
            advance();
            return plan.partitions[number];
        }

        /** The port's slot; the port belongs to the channel from here on. */
        private int readPortName(Partition p, Channel c, boolean out) {
            if (kind != NAME) {
                fail(MUST_NOT_STAND, place);
            }
            int k = p.named(PORT, name);
            Thing t = p.thingAt(PORT, k);
            if (t == null) {
                fail(UNKNOWN_NAME, place);
            } else {
                if (t.out != out || t.queuing != c.queuing || t.channel != NONE) {
                    fail(AGAINST_RULE, place);
                }
                t.channel = c.number;
            }
            advance();
            return PORT * MOST_OTHERS + k;
        }

        private void readFrame() {
            expect(KEY_FRAME);
            expectSign('{');
            for (int n = 0; n <= MOST_WINDOWS; n++) {
                if (n > 0 && seesSign('}')) {
                    break;
                }
                if (plan.windowCount >= MOST_WINDOWS) {
                    fail(TOO_MANY, place);
                }
                Partition p = readPartitionName();
                plan.addWindow(p.number, number(1, 200, 1));
                expectSign(';');
            }
            expectSign('}');
            if (kind != END) {
                fail(MUST_NOT_STAND, place);
            }
        }
    }

    /** All that a configuration tells, and how far it has come. */
    private static final class Plan {
        final Partition[] partitions = new Partition[MOST_PARTITIONS];
        int partitionCount;
        private final Channel[] channels = new Channel[MOST_CHANNELS];
        int channelCount;
        private final int[] inputs = new int[MOST_CHANNELS];
        int inputCount;
        int outputCount;
        private final int[] windows = new int[MOST_WINDOWS];
        private final int[] windowEnds = new int[MOST_WINDOWS];
        int windowCount;
        final Journal journal = new Journal();
        int time;
        int done;
        boolean loaded;
        boolean begun;

        void clear() {
            forget();
            time = 0;
            done = 0;
            begun = false;
            journal.clear();
        }

        void forget() {
            partitionCount = 0;
            channelCount = 0;
            inputCount = 0;
            outputCount = 0;
            windowCount = 0;
            loaded = false;
        }

        /** The caller has seen that there is room for one more; the rows of an earlier plan serve again. */
        Partition addPartition(long name) {
            int number = partitionCount;
            Partition p = partitions[number];
            if (p == null) {
                p = new Partition();
                partitions[number] = p;
            }
            p.reset(number, name);
            partitionCount++;
            return p;
        }

        Channel addChannel(boolean queuing) {
            int number = channelCount;
            Channel c = channels[number];
            if (c == null) {
                c = new Channel();
                channels[number] = c;
            }
            c.reset(number, queuing);
            channelCount++;
            return c;
        }

        void addInput(Channel c) {
            if (inputCount < MOST_CHANNELS) {
                inputs[inputCount] = c.number;
                inputCount++;
            }
        }

        void addOutput(Channel c) {
            if (c.outputs == 0) {
                outputCount++;
            }
            c.outputs++;
        }

        void addWindow(int partition, int ticks) {
            if (windowCount < MOST_WINDOWS) {
                windows[windowCount] = partition;
                windowEnds[windowCount] = frameTicks() + ticks;
                windowCount++;
            }
        }

        int partitionNamed(long name) {
            for (int i = 0; i < partitionCount; i++) {
                if (partitions[i].name == name) {
                    return i;
                }
            }
            return NONE;
        }

        Partition partitionAt(int i) {
            return i < 0 || i >= partitionCount ? null : partitions[i];
        }

        Process processAt(int partition, int process) {
            Partition p = partitionAt(partition);
            return p == null ? null : p.processAt(process);
        }

        Thing thingAt(int partition, int sort, int k) {
            Partition p = partitionAt(partition);
            return p == null ? null : p.thingAt(sort, k);
        }

        Channel channelAt(int i) {
            return i < 0 || i >= channelCount ? null : channels[i];
        }

        Channel inputAt(int k) {
            return k < 0 || k >= inputCount ? null : channelAt(inputs[k]);
        }

        int frameTicks() {
            return windowCount == 0 ? 0 : windowEnds[windowCount - 1];
        }

        private int tickOfFrame() {
            int ticks = frameTicks();
            return ticks <= 0 ? 0 : time % ticks;
        }

        private int windowNow() {
            int tick = tickOfFrame();
            for (int i = 0; i < windowCount; i++) {
                if (tick < windowEnds[i]) {
                    return i;
                }
            }
            return NONE;
        }

        int partitionNow() {
            int window = windowNow();
            return window == NONE ? NONE : windows[window];
        }

        int ticksLeft() {
            int window = windowNow();
            return window == NONE ? 0 : windowEnds[window] - tickOfFrame();
        }

        /** The ticks between this window and its partition's next one, which may be itself a frame later. */
        int ticksBetween() {
            int window = windowNow();
            int between = 0;
            for (int n = 1; n < windowCount && window != NONE; n++) {
                int i = (window + n) % windowCount;
                if (windows[i] == windows[window]) {
                    return between;
                }
                between += windowEnds[i] - (i == 0 ? 0 : windowEnds[i - 1]);
            }
            return between;
        }

        void takeInputs() {
            for (int i = 0; i < inputCount; i++) {
                Channel c = channelAt(inputs[i]);
                if (c != null && c.hasInputAt(time) && !carry(c, c.nextInput())) {
                    c.lost++;
                }
            }
        }

        /** A word goes along a channel; false if its queue is full, so that nothing has come of it. */
        boolean carry(Channel c, int word) {
            for (int i = 0; i < c.outputs; i++) {
                journal.show(time, c.number, word);
            }
            if (!c.queuing) {
                c.sample(word, time);
                return true;
            }
            if (c.outputs > 0 || c.goal != null && c.goal.giveTaker(c.goalSlot, c.fifo, word)) {
                return true;
            }
            return c.queue.add(word);
        }
    }

    /** A partition: memory of its own, processes, things, and how errors are dealt with. */
    private static final class Partition {
        int number;
        long name;
        final Memory memory = new Memory();
        final Process[] processes = new Process[MOST_PROCESSES];
        int processCount;
        private final Thing[] things = new Thing[SLOTS];
        final int[] counts = new int[SORTS];
        private final int[] actions = new int[KINDS];
        int handler;
        int mode;
        int how;
        int begun;
        int done;
        int locks;
        int locker;
        /** One counter for both orders: who is READY, and who waits, since when. */
        private int lastOrder;
        int faulted;
        int faultKind;
        int faultCode;

        void reset(int newNumber, long newName) {
            number = newNumber;
            name = newName;
            processCount = 0;
            Arrays.fill(counts, 0);
            Arrays.fill(actions, SKIP);
            handler = NONE;
            mode = NORMAL;
            how = NONE;
            begun = 0;
            done = 0;
            locks = 0;
            locker = NONE;
            lastOrder = 0;
            faulted = NONE;
        }

        boolean isFull(int sort) {
            if (sort == PROCESS) {
                return processCount >= MOST_PROCESSES;
            }
            return counts[sort] >= (sort == PORT ? MOST_PORTS : MOST_OTHERS);
        }

        /** The caller has asked isFull(). */
        Process addProcess(long newName) {
            int i = processCount;
            Process q = processes[i];
            if (q == null) {
                q = new Process();
                processes[i] = q;
            }
            q.reset(i, newName);
            processCount++;
            return q;
        }

        /** The caller has asked isFull(). */
        Thing addThing(int sort, long newName) {
            int slot = sort * MOST_OTHERS + counts[sort];
            Thing t = things[slot];
            if (t == null) {
                t = new Thing(sort == BUFFER);
                things[slot] = t;
            }
            t.reset(newName);
            counts[sort]++;
            return t;
        }

        Process processAt(int i) {
            return i < 0 || i >= processCount ? null : processes[i];
        }

        Thing thingAt(int sort, int k) {
            if (sort < 0 || sort >= SORTS || k < 0 || k >= counts[sort]) {
                return null;
            }
            return things[sort * MOST_OTHERS + k];
        }

        boolean knows(long wanted) {
            for (int sort = 0; sort <= PROCESS; sort++) {
                if (named(sort, wanted) != NONE) {
                    return true;
                }
            }
            return false;
        }

        int named(int sort, long wanted) {
            int count = sort == PROCESS ? processCount : counts[sort];
            for (int i = 0; i < count; i++) {
                long found = sort == PROCESS ? processes[i].name : things[sort * MOST_OTHERS + i].name;
                if (found == wanted) {
                    return i;
                }
            }
            return NONE;
        }

        void setAction(int kind, int action) {
            if (kind >= 0 && kind < KINDS) {
                actions[kind] = action;
            }
        }

        int actionFor(Process q, int kind) {
            if (q.handler) {
                return WARM;
            }
            int action = kind < 0 || kind >= KINDS ? SKIP : actions[kind];
            Process h = processAt(handler);
            return action == HANDLE && (h == null || h.state != DORMANT) ? SKIP : action;
        }

        void toTheBack(Process q) {
            lastOrder++;
            q.order = lastOrder;
        }

        void makeReady(Process q) {
            q.state = READY;
            q.waits = NONE;
            q.until = NONE;
            lastOrder++;
            q.order = lastOrder;
        }

        void makeWait(Process q, int forWhat, int until) {
            q.state = WAITING;
            q.waits = forWhat;
            q.until = until;
            lastOrder++;
            q.order = lastOrder;
        }

        void answerWaiter(Process q, int answer) {
            makeReady(q);
            q.x[10] = answer;
        }

        void start(Process q, int release, int now) {
            q.restart();
            q.setRelease(release);
            if (q.number == faulted) {
                faulted = NONE;
            }
            if (release > now) {
                makeWait(q, FOR_TIME, release);
            } else {
                makeReady(q);
            }
        }

        void rest(Process q) {
            q.leave(DORMANT);
            unlockOf(q);
            if (q.number == faulted) {
                faulted = NONE;
            }
            Process other = processAt(faulted);
            if (q.handler && other != null) {
                other.leave(DORMANT);
                faulted = NONE;
            }
        }

        private void unlockOf(Process q) {
            if (locker == q.number) {
                locks = 0;
                locker = NONE;
            }
        }

        void lockBy(Process q) {
            locks++;
            locker = q.number;
        }

        void unlockOnce() {
            locks--;
            if (locks == 0) {
                locker = NONE;
            }
        }

        void handOver(Process q, int kind, int code, int now) {
            q.leave(FAULTED);
            unlockOf(q);
            faulted = q.number;
            faultKind = kind;
            faultCode = code;
            Process h = processAt(handler);
            if (h != null) {
                start(h, now, now);
            }
        }

        void beginAnew(boolean cold, int byWhat, int now) {
            allRest();
            how = byWhat;
            begun++;
            for (int sort = 0; sort < SORTS; sort++) {
                for (int k = 0; k < counts[sort]; k++) {
                    things[sort * MOST_OTHERS + k].empty();
                }
            }
            if (cold) {
                memory.restore();
            }
            for (int i = 0; i < processCount; i++) {
                Process q = processes[i];
                if (!q.handler && !q.stopped) {
                    start(q, now + q.delay, now);
                }
            }
        }

        void goIdle() {
            allRest();
            mode = IDLE;
        }

        private void allRest() {
            for (int i = 0; i < processCount; i++) {
                processes[i].leave(DORMANT);
            }
            locks = 0;
            locker = NONE;
            faulted = NONE;
        }

        /** Whose time is over becomes READY, the earlier time first. */
        void wakeUntil(int now) {
            for (int n = 0; n < processCount; n++) {
                Process q = firstToWake(now);
                if (q == null) {
                    return;
                }
                if (q.waits == FOR_TIME) {
                    makeReady(q);
                } else {
                    answerWaiter(q, 4);
                }
            }
        }

        private Process firstToWake(int now) {
            Process first = null;
            for (int i = 0; i < processCount; i++) {
                Process q = processes[i];
                if (q.until != NONE && q.until <= now && (first == null || q.until < first.until)) {
                    first = q;
                }
            }
            return first;
        }

        /** Who does the next instruction; null if nobody does. */
        Process chosen() {
            Process h = processAt(handler);
            if (h != null && h.state == READY) {
                return h;
            }
            Process owner = locks > 0 ? processAt(locker) : null;
            if (owner != null && owner.state == READY) {
                return owner;
            }
            Process best = null;
            for (int i = 0; i < processCount; i++) {
                Process q = processes[i];
                if (q.state == READY && !q.held && (best == null || q.isAheadOf(best, false))) {
                    best = q;
                }
            }
            return best;
        }

        Process firstWaiting(int forWhat, boolean fifo) {
            Process first = null;
            for (int i = 0; i < processCount; i++) {
                Process q = processes[i];
                if (q.waits == forWhat && (first == null || q.isAheadOf(first, fifo))) {
                    first = q;
                }
            }
            return first;
        }

        int countWaiting(int slot) {
            int count = 0;
            for (int i = 0; i < processCount; i++) {
                int waits = processes[i].waits;
                count += waits == slot || waits == PUTS + slot ? 1 : 0;
            }
            return count;
        }

        boolean giveTaker(int slot, boolean fifo, int word) {
            Process q = firstWaiting(slot, fifo);
            if (q == null) {
                return false;
            }
            answerWaiter(q, 0);
            q.x[11] = word;
            return true;
        }

        /** A place in a queue is free: who waits with a word, in its turn, puts that at the end. */
        void refill(Queue queue, int slot, boolean fifo) {
            Process q = firstWaiting(PUTS + slot, fifo);
            if (q != null && queue.add(q.word)) {
                answerWaiter(q, 0);
            }
        }

        void wakeAll(int slot) {
            for (int i = 0; i < processCount; i++) {
                if (processes[i].waits == slot) {
                    answerWaiter(processes[i], 0);
                }
            }
        }

        void showAll(int slot, int word) {
            for (int i = 0; i < processCount; i++) {
                if (processes[i].waits == slot) {
                    processes[i].x[11] = word;
                }
            }
            wakeAll(slot);
        }
    }

    /** A partition's memory, the image that it begins with, and its regions. */
    private static final class Memory {
        int bytes;
        int[] words = new int[0];
        int[] image = new int[0];
        int regions;
        final int[] ends = new int[MOST_REGIONS];
        final int[] sorts = new int[MOST_REGIONS];

        void setBytes(int size) {
            bytes = Math.max(0, size);
            regions = 0;
            if (image.length < bytes >> 2) {
                image = new int[bytes >> 2];
                words = new int[bytes >> 2];
            }
            Arrays.fill(image, 0);
            Arrays.fill(words, 0);
        }

        void addRegion(int size, int sort) {
            if (regions < MOST_REGIONS) {
                ends[regions] = covered() + size;
                sorts[regions] = sort;
                regions++;
            }
        }

        int covered() {
            return regions == 0 ? 0 : ends[regions - 1];
        }

        int firstOf(int k) {
            return k <= 0 || k > regions ? 0 : ends[k - 1];
        }

        void restore() {
            System.arraycopy(image, 0, words, 0, bytes >> 2);
        }

        boolean hasWord(int place) {
            return place >= 0 && place < bytes && (place & 3) == 0;
        }

        private int sortAt(int place) {
            for (int k = 0; k < regions && place >= 0; k++) {
                if (place < ends[k]) {
                    return sorts[k];
                }
            }
            return NONE;
        }

        boolean mayRun(int place) {
            int sort = sortAt(place);
            return sort == CODE_REGION || sort == ALL_REGION;
        }

        boolean mayStore(int place) {
            int sort = sortAt(place);
            return sort == DATA_REGION || sort == ALL_REGION;
        }

        boolean holds(int place) {
            return place >= 0 && place < bytes;
        }

        private static int maskOf(int size) {
            return size >= 4 ? -1 : (1 << 8 * size) - 1;
        }

        /** What lies at a place that is a multiple of the size, without a sign; the lowest byte first. */
        int partAt(int place, int size) {
            return holds(place) ? words[place >> 2] >>> 8 * (place & 3) & maskOf(size) : 0;
        }

        void put(int place, int size, int value) {
            if (holds(place)) {
                int shift = 8 * (place & 3);
                int mask = maskOf(size) << shift;
                words[place >> 2] = words[place >> 2] & ~mask | value << shift & mask;
            }
        }

        /** The name that lies at a place; 0 if it is none. */
        long nameAt(int place, int letters) {
            long name = 0;
            for (int i = 0; i < letters; i++) {
                int digit = nameDigit(partAt(place + i, 1));
                if (digit == 0) {
                    return 0;
                }
                name = name * 37 + digit;
            }
            return name;
        }
    }

    /** A process: its registers, its state, and what it waits for. */
    private static final class Process {
        int number;
        long name;
        int entry;
        int priority;
        int period;
        int deadline;
        int delay;
        boolean handler;
        boolean stopped;
        int state;
        int pc;
        final int[] x = new int[32];
        int due;
        int until;
        int done;
        int release;
        boolean held;
        int order;
        int waits;
        int word;

        void reset(int newNumber, long newName) {
            number = newNumber;
            name = newName;
            period = 0;
            deadline = 0;
            delay = 0;
            handler = false;
            stopped = false;
            pc = 0;
            Arrays.fill(x, 0);
            done = 0;
            release = 0;
            leave(DORMANT);
        }

        /** To a state in which it neither waits nor is held. */
        void leave(int newState) {
            state = newState;
            due = newState == DORMANT ? NONE : due;
            until = NONE;
            waits = NONE;
            held = false;
        }

        void restart() {
            Arrays.fill(x, 0);
            pc = entry;
            held = false;
        }

        void setRelease(int newRelease) {
            release = newRelease;
            due = deadline > 0 ? release + deadline : NONE;
        }

        boolean isAheadOf(Process other, boolean fifo) {
            if (!fifo && priority != other.priority) {
                return priority > other.priority;
            }
            return order < other.order;
        }
    }

    /** A semaphore, an event, a buffer, a board or a port. */
    private static final class Thing {
        long name;
        /** A semaphore's count; 1 for an event that is up and a board that shows something. */
        int count;
        int first;
        int most;
        boolean fifo;
        int word;
        boolean out;
        boolean queuing;
        int channel;
        /** Only a buffer has one. */
        final Queue queue;

        Thing(boolean withQueue) {
            queue = withQueue ? new Queue() : null;
        }

        void reset(long newName) {
            name = newName;
            first = 0;
            most = 0;
            fifo = false;
            out = false;
            queuing = false;
            channel = NONE;
            count = 0;
        }

        void empty() {
            count = first;
            if (queue != null) {
                queue.empty();
            }
        }

        int value() {
            return queue == null ? count : queue.count;
        }
    }

    /** Words in a row, the first to go first; of a sampling channel the one that it has. */
    private static final class Queue {
        private int[] words = new int[0];
        private int depth;
        private int first;
        int count;

        void setDepth(int newDepth) {
            depth = Math.max(0, newDepth);
            if (depth > words.length) {
                words = new int[depth];
            }
            empty();
        }

        void empty() {
            first = 0;
            count = 0;
        }

        private int indexOf(int i) {
            int index = first + i;
            return index >= depth ? index - depth : index;
        }

        int at(int i) {
            return i < 0 || i >= count ? 0 : words[indexOf(i)];
        }

        boolean add(int word) {
            if (count >= depth) {
                return false;
            }
            words[indexOf(count)] = word;
            count++;
            return true;
        }

        int take() {
            int word = at(0);
            if (count > 0) {
                first = indexOf(1);
                count--;
            }
            return word;
        }
    }

    /** A channel from a port or the inputs to ports or the outputs. */
    private static final class Channel {
        int number;
        boolean queuing;
        boolean fifo;
        int limit;
        final Queue queue = new Queue();
        int stamp;
        int lost;
        int goals;
        int outputs;
        /** Source and goal of a queuing channel, where processes may wait; null for input and output. */
        Partition source;
        int sourceSlot;
        Partition goal;
        int goalSlot;
        private int[] inputTimes = new int[0];
        private int[] inputWords = new int[0];
        int inputCount;
        private int nextOne;

        void reset(int newNumber, boolean isQueuing) {
            number = newNumber;
            queuing = isQueuing;
            stamp = NONE;
            lost = 0;
            goals = 0;
            outputs = 0;
            source = null;
            goal = null;
            inputCount = 0;
            nextOne = 0;
        }

        void setLimit(int newLimit) {
            limit = newLimit;
            queue.setDepth(queuing ? newLimit : 1);
        }

        void sample(int word, int now) {
            queue.empty();
            queue.add(word);
            stamp = now;
        }

        int latestInput() {
            return inputCount <= 0 || inputCount > inputTimes.length ? NONE : inputTimes[inputCount - 1];
        }

        void addInput(int time, int word) {
            if (inputTimes.length == 0) {
                inputTimes = new int[MOST_INPUTS];
                inputWords = new int[MOST_INPUTS];
            }
            if (inputCount < MOST_INPUTS) {
                inputTimes[inputCount] = time;
                inputWords[inputCount] = word;
                inputCount++;
            }
        }

        boolean hasInputAt(int now) {
            return nextOne < inputCount && inputTimes[nextOne] == now;
        }

        int nextInput() {
            if (nextOne >= inputCount) {
                return 0;
            }
            nextOne++;
            return inputWords[nextOne - 1];
        }
    }

    /** The trace, of which the first are kept, and the errors, of which the latest are. */
    private static final class Journal {
        private static final int TRACE_KEPT = 300;
        private static final int TRACE_WIDTH = 3;
        private static final int ERRORS_KEPT = 64;
        private static final int ERROR_WIDTH = 6;

        private final int[] traced = new int[TRACE_KEPT * TRACE_WIDTH];
        private final int[] errors = new int[ERRORS_KEPT * ERROR_WIDTH];
        int traceCount;
        int errorCount;

        void clear() {
            traceCount = 0;
            errorCount = 0;
        }

        void show(int time, int channel, int word) {
            if (traceCount < TRACE_KEPT) {
                int row = traceCount * TRACE_WIDTH;
                traced[row] = time;
                traced[row + 1] = channel;
                traced[row + 2] = word;
            }
            traceCount++;
        }

        int shown(int k, int what) {
            if (k < 0 || k >= traceCount || k >= TRACE_KEPT || what < 0 || what >= TRACE_WIDTH) {
                return NONE;
            }
            return traced[k * TRACE_WIDTH + what];
        }

        void note(int time, int partition, int process, int kind, int action, int code) {
            int row = errorCount % ERRORS_KEPT * ERROR_WIDTH;
            errors[row] = time;
            errors[row + 1] = partition;
            errors[row + 2] = process;
            errors[row + 3] = kind;
            errors[row + 4] = action;
            errors[row + 5] = code;
            errorCount++;
        }

        int noted(int k, int what) {
            if (k < 0 || k >= errorCount || k >= ERRORS_KEPT || what < 0 || what >= ERROR_WIDTH) {
                return NONE;
            }
            return errors[(errorCount - 1 - k) % ERRORS_KEPT * ERROR_WIDTH + what];
        }
    }

    /** Does one instruction. */
    private static final class Machine {
        /** Of the latest step that went wrong. */
        int code;

        /** NONE if it is done, CALLED at a call (nothing is changed then), else the kind of error. */
        int step(Process p, Memory m) {
            code = p.pc;
            if ((p.pc & 3) != 0) {
                return ALIGN;
            }
            if (!m.mayRun(p.pc)) {
                return MEMORY;
            }
            int w = m.partAt(p.pc, 4);
            code = w;
            int upper = w & -4096;
            switch (w & 127) {
                case 55:
                    return finish(p, w, upper, p.pc + 4);
                case 23:
                    return finish(p, w, p.pc + upper, p.pc + 4);
                case 111:
                    return finish(p, w, p.pc + 4, p.pc + jumpOf(w));
                case 103:
                    return (w >> 12 & 7) != 0 ? ILLEGAL
                            : finish(p, w, p.pc + 4, p.x[w >> 15 & 31] + (w >> 20) & ~1);
                case 99:
                    return branch(p, w);
                case 3:
                    return fetch(p, m, w);
                case 35:
                    return store(p, m, w);
                case 19:
                    return reckonWithNumber(p, w);
                case 51:
                    return reckonWithRegister(p, w);
                default:
                    return w == CALL_WORD ? CALLED : ILLEGAL;
            }
        }

        private int finish(Process p, int w, int result, int next) {
            int rd = w >> 7 & 31;
            if (rd != 0) {
                p.x[rd] = result;
            }
            p.pc = next;
            return NONE;
        }

        private int jumpOf(int w) {
            return (w >> 31) << 20 | (w >> 12 & 255) << 12 | (w >> 20 & 1) << 11 | (w >> 21 & 1023) << 1;
        }

        private int branchOf(int w) {
            return (w >> 31) << 12 | (w >> 7 & 1) << 11 | (w >> 25 & 63) << 5 | (w >> 8 & 15) << 1;
        }

        private int branch(Process p, int w) {
            int r = p.x[w >> 15 & 31];
            int s = p.x[w >> 20 & 31];
            boolean holds;
            switch (w >> 13 & 3) {
                case 0:
                    holds = r == s;
                    break;
                case 2:
                    holds = r < s;
                    break;
                case 3:
                    holds = Integer.compareUnsigned(r, s) < 0;
                    break;
                default:
                    return ILLEGAL;
            }
            boolean turned = (w >> 12 & 1) != 0;
            p.pc += holds != turned ? branchOf(w) : 4;
            return NONE;
        }

        private int fetch(Process p, Memory m, int w) {
            int f3 = w >> 12 & 7;
            if (f3 == 3 || f3 > 5) {
                return ILLEGAL;
            }
            int size = 1 << (f3 & 3);
            int place = p.x[w >> 15 & 31] + (w >> 20);
            int wrong = wrongPlace(place, size, m.holds(place));
            if (wrong != NONE) {
                return wrong;
            }
            int found = m.partAt(place, size);
            if (f3 == 0) {
                found = (byte) found;
            } else if (f3 == 1) {
                found = (short) found;
            }
            return finish(p, w, found, p.pc + 4);
        }

        private int store(Process p, Memory m, int w) {
            int f3 = w >> 12 & 7;
            if (f3 > 2) {
                return ILLEGAL;
            }
            int size = 1 << f3;
            int place = p.x[w >> 15 & 31] + ((w >> 25) << 5 | w >> 7 & 31);
            int wrong = wrongPlace(place, size, m.mayStore(place));
            if (wrong == NONE) {
                m.put(place, size, p.x[w >> 20 & 31]);
                p.pc += 4;
            }
            return wrong;
        }

        private int wrongPlace(int place, int size, boolean allowed) {
            if ((place & size - 1) == 0 && allowed) {
                return NONE;
            }
            code = place;
            return (place & size - 1) != 0 ? ALIGN : MEMORY;
        }

        private int reckonWithNumber(Process p, int w) {
            int f3 = w >> 12 & 7;
            int f7 = w >>> 25;
            boolean other = f3 == 5 && f7 == 32;
            if ((f3 == 1 || f3 == 5) && f7 != 0 && !other) {
                return ILLEGAL;
            }
            return finish(p, w, reckon(f3, other, p.x[w >> 15 & 31], w >> 20), p.pc + 4);
        }

        private int reckonWithRegister(Process p, int w) {
            int f3 = w >> 12 & 7;
            int f7 = w >>> 25;
            boolean other = f7 == 32 && (f3 == 0 || f3 == 5);
            if (f7 != 0 && !other) {
                return ILLEGAL;
            }
            return finish(p, w, reckon(f3, other, p.x[w >> 15 & 31], p.x[w >> 20 & 31]), p.pc + 4);
        }

        private int reckon(int f3, boolean other, int r, int s) {
            switch (f3) {
                case 0:
                    return other ? r - s : r + s;
                case 1:
                    return r << (s & 31);
                case 2:
                    return r < s ? 1 : 0;
                case 3:
                    return Integer.compareUnsigned(r, s) < 0 ? 1 : 0;
                case 4:
                    return r ^ s;
                case 5:
                    return other ? r >> (s & 31) : r >>> (s & 31);
                case 6:
                    return r | s;
                default:
                    return r & s;
            }
        }
    }

    /** Answers the calls that programs make. */
    private static final class Calls {
        private static final int DONE = 0;
        private static final int NO_SUCH = 1;
        private static final int NOT_NOW = 2;
        private static final int NOT_SO = 3;
        private static final int TOO_OLD = 5;
        /** No answer now, or none at all. */
        private static final int SILENT = -1;
        private static final int RAISE = 20;
        private static final int LAST = 36;

        private Plan plan;
        private Partition home;
        private Process who;
        private int[] x;
        private int now;

        /** NONE, or the kind of error that the call is. */
        int answer(Plan works, Partition partition, Process caller) {
            plan = works;
            home = partition;
            who = caller;
            x = caller.x;
            now = works.time;
            int number = x[17];
            if (number < 0 || number > LAST) {
                return ILLEGAL;
            }
            if (number == RAISE) {
                return RAISED;
            }
            caller.pc += 4;
            int answer;
            if (number <= 7) {
                answer = ofProcesses(number, x[10], x[11]);
            } else if (number <= 12) {
                answer = ofSignals(number, x[10], x[11]);
            } else if (number <= 17) {
                answer = ofWords(number, x[10], x[11], x[12]);
            } else if (number <= 19) {
                answer = number == 18 ? send(x[10], x[11], x[12]) : receive(x[10], x[11]);
            } else if (number <= 25) {
                answer = ofPartition(number, x[10]);
            } else if (number <= 31) {
                answer = ofOthers(number, x[10]);
            } else {
                answer = ofLooks(number, x[10], x[11], x[12]);
            }
            if (answer != SILENT) {
                x[10] = answer;
            }
            return NONE;
        }

        private boolean isNoTime(int t) {
            return t < -1 || t > LONGEST_TIME;
        }

        private boolean isNoDelay(int t) {
            return t < 1 || t > LONGEST_TIME;
        }

        private boolean mayNotWait() {
            return home.locks > 0 || who.handler;
        }

        private int waitFor(int what, int t) {
            if (t == 0) {
                return NOT_NOW;
            }
            if (mayNotWait()) {
                return NOT_SO;
            }
            home.makeWait(who, what, t < 0 ? NONE : now + t);
            return SILENT;
        }

        private int waitWith(int slot, int word, int t) {
            int answer = waitFor(PUTS + slot, t);
            if (answer == SILENT) {
                who.word = word;
            }
            return answer;
        }

        private int ofProcesses(int number, int a, int b) {
            switch (number) {
                case 0:
                    home.rest(who);
                    return SILENT;
                case 1:
                    return waitForPeriod();
                case 2:
                    return isNoDelay(a) ? NO_SUCH : waitUntil(now + a);
                case 3:
                    return startOther(a, 0);
                case 4:
                    return stopOther(a);
                case 5:
                    return setPriority(a, b);
                case 6:
                    return now;
                default:
                    home.toTheBack(who);
                    return DONE;
            }
        }

        private int waitUntil(int time) {
            if (mayNotWait()) {
                return NOT_SO;
            }
            home.makeWait(who, FOR_TIME, time);
            return DONE;
        }

        private int waitForPeriod() {
            if (who.period == 0 || mayNotWait()) {
                return NOT_SO;
            }
            who.setRelease(who.release + who.period);
            return waitUntil(who.release);
        }

        private int startOther(int a, int delay) {
            Process q = home.processAt(a);
            if (q == null) {
                return NO_SUCH;
            }
            if (q.state != DORMANT) {
                return NOT_NOW;
            }
            if (q.handler) {
                return NO_SUCH;
            }
            home.start(q, now + delay, now);
            return DONE;
        }

        private int stopOther(int a) {
            Process q = home.processAt(a);
            if (q == null || q.handler) {
                return NO_SUCH;
            }
            if (q.state == DORMANT) {
                return NOT_NOW;
            }
            home.rest(q);
            return q == who ? SILENT : DONE;
        }

        private int setPriority(int a, int b) {
            Process q = home.processAt(a);
            if (q == null || b < 0 || b > 15) {
                return NO_SUCH;
            }
            q.priority = b;
            return DONE;
        }

        private int ofSignals(int number, int a, int b) {
            Thing t = home.thingAt(number <= 9 ? SEMAPHORE : EVENT, a);
            if (t == null) {
                return NO_SUCH;
            }
            switch (number) {
                case 8:
                    return takeSemaphore(t, a, b);
                case 9:
                    return giveSemaphore(t, a);
                case 10:
                    t.count = 1;
                    home.wakeAll(EVENT * MOST_OTHERS + a);
                    return DONE;
                case 11:
                    t.count = 0;
                    return DONE;
                default:
                    if (isNoTime(b)) {
                        return NO_SUCH;
                    }
                    return t.count != 0 ? DONE : waitFor(EVENT * MOST_OTHERS + a, b);
            }
        }

        private int takeSemaphore(Thing t, int a, int time) {
            if (isNoTime(time)) {
                return NO_SUCH;
            }
            if (t.count <= 0) {
                return waitFor(SEMAPHORE * MOST_OTHERS + a, time);
            }
            t.count--;
            return DONE;
        }

        private int giveSemaphore(Thing t, int a) {
            Process q = home.firstWaiting(SEMAPHORE * MOST_OTHERS + a, t.fifo);
            if (q != null) {
                home.answerWaiter(q, DONE);
                return DONE;
            }
            if (t.count >= t.most) {
                return NOT_NOW;
            }
            t.count++;
            return DONE;
        }

        private int ofWords(int number, int a, int b, int c) {
            int sort = number <= 14 ? BUFFER : BOARD;
            int slot = sort * MOST_OTHERS + a;
            Thing t = home.thingAt(sort, a);
            if (t == null) {
                return NO_SUCH;
            }
            switch (number) {
                case 13:
                    return putIntoBuffer(t, slot, b, c);
                case 14:
                    return isNoTime(b) ? NO_SUCH : takeFrom(t.queue, slot, b, home, slot, t.fifo);
                case 15:
                    t.count = 1;
                    t.word = b;
                    home.showAll(slot, b);
                    return DONE;
                case 16:
                    t.count = 0;
                    return DONE;
                default:
                    return readBoard(t, slot, b);
            }
        }

        private int putIntoBuffer(Thing t, int slot, int word, int time) {
            if (isNoTime(time)) {
                return NO_SUCH;
            }
            if (home.giveTaker(slot, t.fifo, word) || t.queue != null && t.queue.add(word)) {
                return DONE;
            }
            return waitWith(slot, word, time);
        }

        private int takeFrom(Queue queue, int slot, int time, Partition source, int sourceSlot,
                boolean fifo) {
            if (queue == null || queue.count == 0) {
                return waitFor(slot, time);
            }
            x[11] = queue.take();
            if (source != null) {
                source.refill(queue, sourceSlot, fifo);
            }
            return DONE;
        }

        private int readBoard(Thing t, int slot, int time) {
            if (isNoTime(time)) {
                return NO_SUCH;
            }
            if (t.count == 0) {
                return waitFor(slot, time);
            }
            x[11] = t.word;
            return DONE;
        }

        private int send(int a, int word, int time) {
            Thing port = home.thingAt(PORT, a);
            if (port == null || !port.out || port.queuing && isNoTime(time)) {
                return NO_SUCH;
            }
            Channel c = plan.channelAt(port.channel);
            if (c == null) {
                return NOT_SO;
            }
            return plan.carry(c, word) ? DONE : waitWith(PORT * MOST_OTHERS + a, word, time);
        }

        private int receive(int a, int time) {
            Thing port = home.thingAt(PORT, a);
            if (port == null || port.out || port.queuing && isNoTime(time)) {
                return NO_SUCH;
            }
            Channel c = plan.channelAt(port.channel);
            if (c == null) {
                return NOT_SO;
            }
            if (c.queuing) {
                return takeFrom(c.queue, PORT * MOST_OTHERS + a, time, c.source, c.sourceSlot, c.fifo);
            }
            if (c.stamp == NONE) {
                return NOT_NOW;
            }
            x[11] = c.queue.at(0);
            return now - c.stamp <= c.limit ? DONE : TOO_OLD;
        }

        private int ofPartition(int number, int a) {
            switch (number) {
                case 21:
                    return lock();
                case 22:
                    return unlock();
                case 23:
                    return beginPartition(a);
                case 24:
                    return tellFault();
                default:
                    return decide(a);
            }
        }

        private int lock() {
            if (who.handler) {
                return NOT_SO;
            }
            if (home.locks >= MOST_LOCKS) {
                return NOT_NOW;
            }
            home.lockBy(who);
            return DONE;
        }

        private int unlock() {
            if (who.handler) {
                return NOT_SO;
            }
            if (home.locks <= 0) {
                return NOT_NOW;
            }
            home.unlockOnce();
            return DONE;
        }

        private int beginPartition(int a) {
            if (a < 0 || a > 2) {
                return NO_SUCH;
            }
            if (a == 2) {
                home.goIdle();
            } else {
                home.beginAnew(a == 1, a == 1 ? BY_COLD_CALL : BY_WARM_CALL, now);
            }
            return SILENT;
        }

        private int tellFault() {
            if (!who.handler) {
                return NOT_SO;
            }
            Process q = home.processAt(home.faulted);
            if (q == null) {
                return NOT_NOW;
            }
            x[11] = q.number;
            x[12] = q.pc;
            x[13] = home.faultCode;
            return home.faultKind;
        }

        private int decide(int a) {
            if (!who.handler) {
                return NOT_SO;
            }
            Process q = home.processAt(home.faulted);
            if (q == null) {
                return NOT_NOW;
            }
            if (a < 0 || a > 2) {
                return NO_SUCH;
            }
            if (a == 1) {
                home.rest(q);
            } else if (a == 2) {
                home.start(q, now, now);
            } else {
                home.faulted = NONE;
                q.pc += home.faultKind == LATE ? 0 : 4;
                home.makeReady(q);
            }
            return DONE;
        }

        private int ofOthers(int number, int a) {
            switch (number) {
                case 26:
                    return waitToGoOn(a);
                case 27:
                    return hold(a);
                case 28:
                    return letGoOn(a);
                case 29:
                    return setDue(a);
                case 30:
                    return tellProcess(a);
                default:
                    return who.number;
            }
        }

        private int waitToGoOn(int time) {
            if (isNoTime(time)) {
                return NO_SUCH;
            }
            return who.period > 0 ? NOT_SO : waitFor(FOR_GO, time);
        }

        private int hold(int a) {
            Process q = home.processAt(a);
            if (q == null || q == who || q.handler) {
                return NO_SUCH;
            }
            if (q.period > 0 || home.locks > 0 && home.locker == a) {
                return NOT_SO;
            }
            if (q.state == DORMANT || q.state == FAULTED || q.held) {
                return NOT_NOW;
            }
            q.held = true;
            return DONE;
        }

        private int letGoOn(int a) {
            Process q = home.processAt(a);
            if (q == null) {
                return NO_SUCH;
            }
            boolean waited = q.waits == FOR_GO;
            if (!waited && !q.held) {
                return NOT_NOW;
            }
            q.held = false;
            if (waited) {
                home.answerWaiter(q, DONE);
            } else if (q.state == READY) {
                home.toTheBack(q);
            }
            return DONE;
        }

        private int setDue(int a) {
            if (isNoDelay(a)) {
                return NO_SUCH;
            }
            if (who.deadline == 0 || who.period > 0 && now + a > who.release + who.period) {
                return NOT_SO;
            }
            who.due = now + a;
            return DONE;
        }

        private int tellProcess(int a) {
            Process q = home.processAt(a);
            if (q == null) {
                return NO_SUCH;
            }
            x[11] = q.state;
            x[12] = q.priority;
            x[13] = q.due;
            return DONE;
        }

        private int ofLooks(int number, int a, int b, int c) {
            switch (number) {
                case 32:
                    x[11] = home.number;
                    x[12] = home.how;
                    x[13] = home.locks;
                    return DONE;
                case 33:
                    return tellThing(a, b);
                case 34:
                    return isNoDelay(b) ? NO_SUCH : startOther(a, b);
                case 35:
                    x[11] = plan.ticksLeft();
                    x[12] = plan.ticksBetween();
                    x[13] = plan.frameTicks();
                    return DONE;
                default:
                    return findNamed(a, b, c);
            }
        }

        private int tellThing(int sort, int k) {
            Thing t = home.thingAt(sort, k);
            if (t == null) {
                return NO_SUCH;
            }
            Channel c = sort == PORT ? plan.channelAt(t.channel) : null;
            x[11] = c == null ? t.value() : c.queue.count;
            x[12] = home.countWaiting(sort * MOST_OTHERS + k);
            return DONE;
        }

        private int findNamed(int sort, int place, int letters) {
            if (sort < 0 || sort > PROCESS || letters < 1 || letters > LONGEST_NAME) {
                return NO_SUCH;
            }
            if (place < 0 || place > home.memory.bytes - letters) {
                return NO_SUCH;
            }
            int k = home.named(sort, home.memory.nameAt(place, letters));
            if (k == NONE) {
                return NOT_NOW;
            }
            x[11] = k;
            return DONE;
        }
    }
}
