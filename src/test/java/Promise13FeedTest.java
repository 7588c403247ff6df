/**
 * Promise 13: "The n lowest bytes of a long, the lowest first, come behind the stream. Answers how many it has; NONE when
 * there would be more than 9000. IllegalArgumentException: n is not 1 .. 8."
 */
public final class Promise13FeedTest {
    private static final Check CHECK = new Check();
    private static final Refusals REFUSALS = new Refusals(CHECK);

    public static void main(String[] args) {
        lowestBytes();
        behindWhatWasEncoded();
        upTo9000();
        noneAbove9000();
        wrongNumber();
        CHECK.end();
    }

    private static void lowestBytes() {
        SoundStream x = new SoundStream();
        int length = 0;
        for (int n = 1; n <= 8; n++) {
            length += n;
            CHECK.due("feed(" + n + ")", x.feed(n, 0xf1f2f3f4f5f6f7f8L), length);
            long due = n == 8 ? 0xf1f2f3f4f5f6f7f8L : 0xf1f2f3f4f5f6f7f8L & ((1L << (8 * n)) - 1);
            CHECK.due("the bytes of feed(" + n + ")", x.stream(length - n), due);
        }
        SoundStream y = new SoundStream();
        y.feed(8, Long.MIN_VALUE);
        y.feed(8, Long.MAX_VALUE);
        y.feed(8, -1);
        CHECK.due("the least long", y.stream(0), Long.MIN_VALUE);
        CHECK.due("the greatest long", y.stream(8), Long.MAX_VALUE);
        CHECK.due("all ones", y.stream(16), -1);
    }

    private static void behindWhatWasEncoded() {
        SoundStream x = Recipes.oneChannel();
        int bytes = x.told(0);
        int frames = x.told(1);
        CHECK.due("feed behind encode()", x.feed(1, 7), bytes + 1);
        CHECK.due("its byte", x.stream(bytes), 7);
        CHECK.due("frames encoded stay", x.told(1), frames);
        CHECK.due("what was decoded stays", x.told(6), 20);
        CHECK.due("the fault stays", x.fault(), 0);
    }

    private static SoundStream with(int bytes) {
        SoundStream x = Recipes.fullStream();
        x.cut(bytes);
        return x;
    }

    private static void upTo9000() {
        for (int n = 1; n <= 8; n++) {
            SoundStream x = with(9000 - n);
            CHECK.due(n + " up to 9000", x.feed(n, 0xc8c7c6c5c4c3c2c1L), 9000);
            CHECK.due("the last byte", x.stream(8999), 0xc0 + n);
            CHECK.due("one more", x.feed(1, 1), -1);
            CHECK.due("told(0)", x.told(0), 9000);
        }
        SoundStream x = with(8991);
        CHECK.due("8 up to 8999", x.feed(8, 1), 8999);
    }

    private static void noneAbove9000() {
        for (int n = 1; n <= 8; n++) {
            int more = n;
            REFUSALS.none(n + " above 9000", () -> with(9001 - more), x -> x.feed(more, -1));
            REFUSALS.none(n + " behind 9000", Recipes::fullStream, x -> x.feed(more, -1));
        }
    }

    private static void wrongNumber() {
        for (int n : new int[] {0, 9, -1, -8, Integer.MIN_VALUE, Integer.MAX_VALUE}) {
            // a full stream is among them: the exception comes before NONE
            REFUSALS.everywhere("feed(" + n + ", 1)", IllegalArgumentException.class, x -> x.feed(n, 1));
        }
    }
}
