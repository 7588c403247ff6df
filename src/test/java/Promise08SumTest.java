/** Promise 8: "Half of the sum of the rows: its first eight bytes (0) or its last ones (1), the first one the lowest." */
public final class Promise08SumTest {
    private static final Check CHECK = new Check();
    private static final Refusals REFUSALS = new Refusals(CHECK);

    public static void main(String[] args) {
        emptyRows();
        everyLengthOfTheLastBytes();
        everyDepth();
        fullRows();
        sampleOfAllChannelsInTurn();
        anotherHalf();
        rowsNotAlike();
        CHECK.end();
    }

    private static void emptyRows() {
        for (int channels = 1; channels <= 2; channels++) {
            SoundStream x = new SoundStream();
            x.form(channels, 24, 16, 1);
            // the well-known sum of no bytes: d41d8cd98f00b204 e9800998ecf8427e
            CHECK.due("the first half", x.sum(0), Long.reverseBytes(0xd41d8cd98f00b204L));
            CHECK.due("the last half", x.sum(1), Long.reverseBytes(0xe9800998ecf8427eL));
        }
    }

    /** "Then a byte 128; then bytes 0 until there are 56 more than a multiple of 64": 55 and 56 bytes are the edge. */
    private static void everyLengthOfTheLastBytes() {
        for (int length = 0; length <= 130; length++) {
            compare(1, 8, length);
        }
        for (int length : new int[] {27, 28, 31, 32, 33, 59, 60, 63, 64}) {
            compare(2, 8, length);
            compare(1, 16, length);
        }
    }

    /** "Each in the fewest bytes that have D bits": 8 and 9, 16 and 17 are the edges. */
    private static void everyDepth() {
        for (int depth = 4; depth <= 24; depth++) {
            for (int channels = 1; channels <= 2; channels++) {
                compare(channels, depth, 1);
                compare(channels, depth, 23);
            }
        }
    }

    private static void fullRows() {
        for (int depth : new int[] {4, 8, 9, 16, 17, 24}) {
            compare(1, depth, 1200);
            compare(2, depth, 1199);
            compare(2, depth, 1200);
        }
    }

    private static void compare(int channels, int depth, int length) {
        SoundStream x = new SoundStream();
        x.form(channels, depth, 16, 1);
        long[][] rows = new long[channels][length];
        for (int c = 0; c < channels; c++) {
            int seed = 31 * depth + c;
            x.noise(c, length, seed, depth);
            for (int i = 0; i < length; i++) {
                seed = 1103515245 * seed + 12345;
                rows[c][i] = seed >> (32 - depth);
            }
        }
        byte[] due = PlainDecoder.sum(rows, channels, length, depth);
        for (int half = 0; half < 2; half++) {
            String what = "sum(" + half + ") of " + channels + " x " + length + " of " + depth + " bits";
            CHECK.due(what, x.sum(half), eight(due, 8 * half));
        }
    }

    private static long eight(byte[] all, int from) {
        long v = 0;
        for (int i = 7; i >= 0; i--) {
            v = v << 8 | all[from + i] & 255;
        }
        return v;
    }

    /** "Sample 0 of all channels, sample 1 of all": so two rows are as one that has them by turns. */
    private static void sampleOfAllChannelsInTurn() {
        SoundStream two = new SoundStream();
        two.form(2, 12, 16, 1);
        SoundStream one = new SoundStream();
        one.form(1, 12, 16, 1);
        for (int i = 0; i < 40; i++) {
            two.sample(0, i);
            two.sample(1, -i);
            one.sample(0, i);
            one.sample(0, -i);
        }
        CHECK.due("by turns", two.sum(0), one.sum(0));
        CHECK.due("by turns, the other half", two.sum(1), one.sum(1));
        long before = two.sum(0);
        CHECK.due("twice the same", two.sum(0), before);
        two.encode(false);
        two.decode();
        CHECK.due("also behind encode() and decode()", two.sum(0), before);
    }

    private static void anotherHalf() {
        for (int half : new int[] {-1, 2, Integer.MIN_VALUE, Integer.MAX_VALUE}) {
            // uneven rows are among them: the half comes first
            REFUSALS.everywhere("sum(" + half + ")", IllegalArgumentException.class, x -> x.sum(half));
        }
    }

    private static void rowsNotAlike() {
        for (int half = 0; half < 2; half++) {
            int one = half;
            REFUSALS.refused("sum(" + half + ") of uneven rows", IllegalStateException.class, Recipes::unevenRows, x -> x.sum(one));
        }
        SoundStream x = new SoundStream();
        x.form(2, 8, 16, 1);
        x.sample(1, 5);
        CHECK.throwsIllegalState("none and one", () -> x.sum(0));
        x.sample(0, 5);
        CHECK.due("one and one", x.sum(0), x.sum(0));
        x.sample(0, 5);
        CHECK.throwsIllegalState("two and one", () -> x.sum(1));
        x.ramp(0, 1198, 0, 0);
        x.ramp(1, 1198, 0, 0);
        CHECK.throwsIllegalState("1200 and 1199", () -> x.sum(0));
    }
}
