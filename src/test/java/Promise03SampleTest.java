/** Promise 3: "A number, wrapped, comes behind a channel's row. Answers how many samples it has; NONE when it has 1200." */
public final class Promise03SampleTest {
    private static final Check CHECK = new Check();
    private static final Refusals REFUSALS = new Refusals(CHECK);

    public static void main(String[] args) {
        wrapped();
        behindTheRow();
        noneWhenFull();
        noSuchChannel();
        CHECK.end();
    }

    private static void wrapped() {
        for (int depth = 4; depth <= 24; depth++) {
            SoundStream x = new SoundStream();
            x.form(1, depth, 16, 1);
            int half = 1 << (depth - 1);
            int[] given = {
                0, -1, half - 1, half, half + 1, -half, -half - 1, 2 * half - 1, 2 * half, -2 * half, 3 * half - 1, 3 * half,
                -3 * half, -3 * half - 1, Integer.MAX_VALUE, Integer.MIN_VALUE, Integer.MAX_VALUE - half, Integer.MIN_VALUE + half
            };
            for (int i = 0; i < given.length; i++) {
                CHECK.due("sample(0, " + given[i] + ")", x.sample(0, given[i]), i + 1);
                CHECK.due(given[i] + " in " + depth + " bits", x.at(0, i), wrap(given[i], half));
            }
        }
    }

    /** By adding or taking away as often as it takes, in steps that keep this short. */
    private static long wrap(long number, long half) {
        long v = number % (2 * half);
        while (v < -half) {
            v += 2 * half;
        }
        while (v >= half) {
            v -= 2 * half;
        }
        return v;
    }

    private static void behindTheRow() {
        SoundStream x = new SoundStream();
        x.form(2, 8, 16, 1);
        CHECK.due("the first sample", x.sample(1, 5), 1);
        CHECK.due("the second sample", x.sample(1, 6), 2);
        CHECK.due("the first sample of the other row", x.sample(0, 7), 1);
        CHECK.due("at(1, 0)", x.at(1, 0), 5);
        CHECK.due("at(1, 1)", x.at(1, 1), 6);
        CHECK.due("at(0, 0)", x.at(0, 0), 7);
        CHECK.throwsIndexOutOfBounds("at(0, 1)", () -> x.at(0, 1));
    }

    private static void noneWhenFull() {
        for (int channel = 0; channel < 2; channel++) {
            int one = channel;
            SoundStream x = new SoundStream();
            x.form(2, 8, 16, 1);
            x.ramp(channel, 1198, 0, 0);
            CHECK.due("the last but one", x.sample(channel, 2), 1199);
            CHECK.due("the last", x.sample(channel, 3), 1200);
            CHECK.due("one too many", x.sample(channel, 4), -1);
            CHECK.due("and again", x.sample(channel, 5), -1);
            CHECK.due("the last stays", x.at(channel, 1199), 3);
            CHECK.throwsIndexOutOfBounds("there is none behind it", () -> x.at(one, 1200));
            CHECK.due("the other row has room", x.sample(1 - channel, 4), 1);
            x.clear();
            CHECK.due("room again", x.sample(channel, 6), 1);
            REFUSALS.none("sample() of a full row", Recipes::fullRows, y -> y.sample(one, 17));
        }
    }

    private static void noSuchChannel() {
        int[] never = {-1, 2, 3, Integer.MIN_VALUE, Integer.MAX_VALUE};
        for (int channel : never) {
            REFUSALS.everywhere("sample(" + channel + ", 1)", IllegalArgumentException.class, x -> x.sample(channel, 1));
        }
        REFUSALS.refused("sample(1, 1) of one channel", IllegalArgumentException.class, Recipes::oneChannel, x -> x.sample(1, 1));
        SoundStream full = new SoundStream();
        full.ramp(0, 1200, 0, 0);
        CHECK.throwsIllegalArgument("no such channel beside a full row", () -> full.sample(1, 0));
    }
}
