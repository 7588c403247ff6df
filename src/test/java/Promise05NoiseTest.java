/**
 * Promise 5: "n numbers come behind a channel's row: x, seed at first, becomes 1103515245 x + 12345 (wrapping) before
 * each (the first one, too), which is then x by 2^(32 - bits), rounded down, wrapped."
 */
public final class Promise05NoiseTest {
    private static final Check CHECK = new Check();
    private static final Refusals REFUSALS = new Refusals(CHECK);

    public static void main(String[] args) {
        numbers();
        firstOne();
        noNumbers();
        noneWhenTooMany();
        wrongCalls();
        CHECK.end();
    }

    private static void numbers() {
        int[] seeds = {0, 1, -1, 77, Integer.MAX_VALUE, Integer.MIN_VALUE};
        for (int depth : new int[] {4, 12, 23, 24}) {
            for (int bits : new int[] {1, 2, 3, 4, 5, 12, 13, 23, 24}) {
                SoundStream x = new SoundStream();
                x.form(2, depth, 16, 1);
                int length = 0;
                for (int seed : seeds) {
                    CHECK.due("noise(1, 6, " + seed + ", " + bits + ")", x.noise(1, 6, seed, bits), length + 6);
                    long v = seed;
                    for (int i = 0; i < 6; i++) {
                        v = (int) (1103515245L * v + 12345);
                        long range = 1L << depth;
                        long due = Math.floorMod(Math.floorDiv(v, 1L << (32 - bits)) + range / 2, range) - range / 2;
                        CHECK.due("noise of seed " + seed + ", " + bits + " bits, sample " + i, x.at(1, length + i), due);
                    }
                    length += 6;
                }
            }
        }
    }

    private static void firstOne() {
        SoundStream x = new SoundStream();
        x.form(1, 24, 16, 1);
        x.noise(0, 1, 0, 24);
        CHECK.due("12345 by 2^8, rounded down", x.at(0, 0), 48);
        x.noise(0, 2, 0, 1);
        CHECK.due("one bit, not below 0", x.at(0, 1), 0);
        CHECK.due("one bit, below 0", x.at(0, 2), -1);
    }

    private static void noNumbers() {
        SoundStream x = new SoundStream();
        CHECK.due("none for an empty row", x.noise(0, 0, 1, 1), 0);
        x.ramp(0, 1200, 0, 0);
        CHECK.due("none for a full row", x.noise(0, 0, 1, 24), 1200);
    }

    private static void noneWhenTooMany() {
        SoundStream x = new SoundStream();
        CHECK.due("1201 for an empty row", x.noise(0, 1201, 1, 5), -1);
        CHECK.due("the most for an empty row", x.noise(0, Integer.MAX_VALUE, 1, 5), -1);
        CHECK.due("the row stays empty", x.noise(0, 0, 1, 5), 0);
        CHECK.due("20", x.noise(0, 20, 1, 5), 20);
        CHECK.due("1181 more", x.noise(0, 1181, 1, 5), -1);
        CHECK.due("1180 more", x.noise(0, 1180, 1, 5), 1200);
        CHECK.due("one more", x.noise(0, 1, 1, 5), -1);
        x.clear();
        CHECK.due("1200 for an empty row", x.noise(0, 1200, 1, 5), 1200);
        REFUSALS.none("noise of one behind a full row", Recipes::fullRows, y -> y.noise(1, 1, 3, 3));
        REFUSALS.none("noise of 1160 behind 41 samples", Recipes::twoChannels, y -> y.noise(0, 1160, 3, 3));
        REFUSALS.none("noise of the most", Recipes::twoChannels, y -> y.noise(1, Integer.MAX_VALUE, 3, 24));
    }

    private static void wrongCalls() {
        for (int channel : new int[] {-1, 2, Integer.MIN_VALUE, Integer.MAX_VALUE}) {
            REFUSALS.everywhere("noise(" + channel + ", 1, 0, 1)", IllegalArgumentException.class, x -> x.noise(channel, 1, 0, 1));
        }
        for (int n : new int[] {-1, Integer.MIN_VALUE}) {
            REFUSALS.everywhere("noise(0, " + n + ", 0, 1)", IllegalArgumentException.class, x -> x.noise(0, n, 0, 1));
        }
        for (int bits : new int[] {0, 25, -1, 32, Integer.MIN_VALUE, Integer.MAX_VALUE}) {
            REFUSALS.everywhere("noise(0, 1, 0, " + bits + ")", IllegalArgumentException.class, x -> x.noise(0, 1, 0, bits));
            REFUSALS.everywhere("noise(0, 0, 0, " + bits + ")", IllegalArgumentException.class, x -> x.noise(0, 0, 0, bits));
            REFUSALS.everywhere("noise(0, 1201, 0, " + bits + ")", IllegalArgumentException.class, x -> x.noise(0, 1201, 0, bits));
        }
        REFUSALS.refused("noise(1, ..) of one channel", IllegalArgumentException.class, Recipes::oneChannel, x -> x.noise(1, 0, 0, 1));
    }
}
