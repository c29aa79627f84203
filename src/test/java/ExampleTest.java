/** The example of README.md, with each answer that it tells. */
public final class ExampleTest {
    public static void main(String[] args) {
        Bench b = new Bench();
        PartitionWorks works = b.x;
        refused(b, works);
        loaded(b, works);
        given(works);
        ran(b, works);
        b.finish();
    }

    private static void put(PartitionWorks works, String text) {
        for (int from = 0; from < text.length(); from += 20) {
            int n = Math.min(20, text.length() - from);
            int[] words = new int[5];
            for (int i = 0; i < n; i++) {
                words[i / 4] |= text.charAt(from + i) << 24 - 8 * (i % 4);
            }
            works.feed(words[0], words[1], words[2], words[3], words[4]);
            works.end(n);
        }
    }

    private static void refused(Bench b, PartitionWorks works) {
        put(works, "partition pump { memory 100; }");
        b.refuses("memory 100", IllegalArgumentException.class, works::load);
        b.is("fault", works.fault(0), 5);
        b.is("place", works.fault(1), 24);
    }

    private static void loaded(Bench b, PartitionWorks works) {
        put(works, "partition pump {\n"
                + "  memory 256;\n"
                + "  process main { entry 0; priority 5; deadline 50; }\n"
                + "  port level in queuing;\n"
                + "  port valve out sampling;\n"
                + "  errors { late : stop; }\n"
                + "}\n"
                + "channel queuing 4 { input > pump.level }\n"
                + "channel sampling 100 { pump.valve > output }\n"
                + "frame { pump 10; }\n");
        b.is("partitions", works.load(), 1);
        b.is("no fault", works.fault(0), 0);
        b.is("no place", works.fault(1), PartitionWorks.NONE);
    }

    private static void given(PartitionWorks works) {
        int[] program = {
            0x01300893,
            0xfff00593,
            0x00000073,
            0x00158593,
            0x01200893,
            0x00100513,
            0x00000073,
            0x00000893,
            0x00000073,
        };
        for (int i = 0; i < program.length; i++) {
            works.image(0, 4 * i, program[i]);
        }
        works.input(0, 6, 41);
    }

    private static void ran(Bench b, PartitionWorks works) {
        works.begin();
        b.is("the first instructions", works.run(5), 3);
        b.is("WAITING", works.state(0, 0, 0), 2);
        b.is("who waits at the port", works.waiting(0, 4, 0), 1);
        b.is("the instructions then", works.run(15), 6);
        b.is("sent", works.trace(0, 2), 42);
        b.is("when", works.trace(0, 0), 9);
        b.is("along", works.trace(0, 1), 1);
        b.is("the channel's time", works.channel(1, 3), 9);
        b.is("the channel's word", works.wordAt(1, 0), 42);
        b.is("DORMANT", works.state(0, 0, 0), 0);
        b.is("time", works.about(0), 20);
        b.is("errors", works.about(1), 0);
    }
}
