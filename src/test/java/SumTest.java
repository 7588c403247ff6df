/** Promise 8: sum, against the library's own digest. */
public final class SumTest {
    private static final Check CHECK = new Check();

    public static void main(String[] args) {
        lengthsAndDepths();
        wrongCalls();
        CHECK.end();
    }

    private static void lengthsAndDepths() {
        // lengths round the places where the message's last 64 bytes overflow
        int[] lengths = {0, 1, 2, 13, 14, 17, 18, 19, 21, 22, 27, 28, 29, 31, 32, 54, 55, 56, 57, 63, 64, 65, 119, 120, 1200};
        int[] depths = {4, 7, 8, 9, 16, 17, 24};
        for (int channels = 1; channels <= 2; channels++) {
            for (int depth : depths) {
                SoundStream x = new SoundStream();
                x.form(channels, depth, 16, 1);
                for (int length : lengths) {
                    x.clear();
                    for (int c = 0; c < channels; c++) {
                        x.noise(c, length, 31 * depth + c, depth);
                    }
                    long[][] rows = rowsOf(length, channels, depth);
                    byte[] due = PlainDecoder.sum(rows, channels, length, depth);
                    for (int half = 0; half < 2; half++) {
                        String what = "sum(" + half + ") of " + channels + " x " + length + " of " + depth + " bits";
                        CHECK.due(what, x.sum(half), eight(due, 8 * half));
                    }
                }
            }
        }
    }

    private static long[][] rowsOf(int length, int channels, int depth) {
        long[][] rows = new long[channels][length];
        for (int c = 0; c < channels; c++) {
            int seed = 31 * depth + c;
            for (int i = 0; i < length; i++) {
                seed = 1103515245 * seed + 12345;
                rows[c][i] = seed >> (32 - depth);
            }
        }
        return rows;
    }

    private static long eight(byte[] all, int from) {
        long v = 0;
        for (int i = 7; i >= 0; i--) {
            v = v << 8 | all[from + i] & 255;
        }
        return v;
    }

    private static void wrongCalls() {
        SoundStream x = new SoundStream();
        x.form(2, 8, 16, 1);
        x.sample(1, 5);
        CHECK.throwsIllegalArgument("sum(2): the half comes first", () -> x.sum(2));
        CHECK.throwsIllegalArgument("sum(-1)", () -> x.sum(-1));
        CHECK.throwsIllegalState("rows that are not alike", () -> x.sum(0));
        CHECK.throwsIllegalState("rows that are not alike, other half", () -> x.sum(1));
        x.sample(0, 5);
        long before = x.sum(0);
        CHECK.due("twice the same", x.sum(0), before);
    }
}
