/**
 * Promise 4: "n numbers, v, v and step, and so on (wrapping as ints do), each wrapped, come behind a channel's row.
 * Answers how many it has; NONE when there would be more than 1200."
 */
public final class Promise04RampTest {
    private static final Check CHECK = new Check();
    private static final Refusals REFUSALS = new Refusals(CHECK);

    public static void main(String[] args) {
        numbers();
        wrappingAsIntsDo();
        noNumbers();
        noneWhenTooMany();
        wrongCalls();
        CHECK.end();
    }

    private static void numbers() {
        SoundStream x = new SoundStream();
        x.form(2, 8, 16, 1);
        CHECK.due("ramp(1, 5, 100, 20)", x.ramp(1, 5, 100, 20), 5);
        CHECK.due("ramp(1, 3, -100, -20)", x.ramp(1, 3, -100, -20), 8);
        CHECK.due("ramp(1, 2, 9, 0)", x.ramp(1, 2, 9, 0), 10);
        CHECK.due("ramp(1, 1, 7, 99)", x.ramp(1, 1, 7, 99), 11);
        int[] due = {100, 120, -116, -96, -76, -100, -120, 116, 9, 9, 7};
        for (int i = 0; i < due.length; i++) {
            CHECK.due("ramp's sample " + i, x.at(1, i), due[i]);
        }
        CHECK.throwsIndexOutOfBounds("the other row stays empty", () -> x.at(0, 0));
    }

    private static void wrappingAsIntsDo() {
        int[][] ramps = {
            {Integer.MAX_VALUE, 1}, {Integer.MAX_VALUE, 3}, {Integer.MIN_VALUE, -1}, {0, Integer.MIN_VALUE}, {1, Integer.MAX_VALUE},
            {Integer.MIN_VALUE, Integer.MIN_VALUE}, {Integer.MAX_VALUE, Integer.MAX_VALUE}
        };
        for (int depth : new int[] {4, 23, 24}) {
            for (int[] e : ramps) {
                SoundStream x = new SoundStream();
                x.form(1, depth, 16, 1);
                CHECK.due("ramp(0, 6, ..)", x.ramp(0, 6, e[0], e[1]), 6);
                for (int i = 0; i < 6; i++) {
                    long number = (int) (e[0] + (long) e[1] * i);
                    long range = 1L << depth;
                    long due = Math.floorMod(number + range / 2, range) - range / 2;
                    CHECK.due("ramp " + e[0] + " by " + e[1] + " in " + depth + " bits, sample " + i, x.at(0, i), due);
                }
            }
        }
    }

    private static void noNumbers() {
        SoundStream x = new SoundStream();
        CHECK.due("none for an empty row", x.ramp(0, 0, 9, 9), 0);
        CHECK.throwsIndexOutOfBounds("it stays empty", () -> x.at(0, 0));
        x.ramp(0, 1200, 1, 0);
        CHECK.due("none for a full row", x.ramp(0, 0, 9, 9), 1200);
    }

    private static void noneWhenTooMany() {
        SoundStream x = new SoundStream();
        CHECK.due("1201 for an empty row", x.ramp(0, 1201, 1, 1), -1);
        CHECK.due("the most for an empty row", x.ramp(0, Integer.MAX_VALUE, 1, 1), -1);
        CHECK.due("the row stays empty", x.ramp(0, 0, 1, 1), 0);
        CHECK.due("1200 for an empty row", x.ramp(0, 1200, 1, 1), 1200);
        CHECK.due("the last of them", x.at(0, 1199), 1200);
        CHECK.due("one for a full row", x.ramp(0, 1, 1, 1), -1);
        x.clear();
        CHECK.due("two", x.ramp(0, 2, 1, 1), 2);
        CHECK.due("1199 more", x.ramp(0, 1199, 1, 1), -1);
        CHECK.due("two stay", x.ramp(0, 0, 1, 1), 2);
        CHECK.due("1198 more", x.ramp(0, 1198, 5, 1), 1200);
        CHECK.due("they stand behind the two", x.at(0, 2), 5);
        REFUSALS.none("ramp of one behind a full row", Recipes::fullRows, y -> y.ramp(0, 1, 3, 3));
        REFUSALS.none("ramp of 1160 behind 41 samples", Recipes::twoChannels, y -> y.ramp(1, 1160, 3, 3));
        REFUSALS.none("ramp of the most", Recipes::twoChannels, y -> y.ramp(0, Integer.MAX_VALUE, 3, 3));
    }

    private static void wrongCalls() {
        for (int channel : new int[] {-1, 2, Integer.MIN_VALUE, Integer.MAX_VALUE}) {
            REFUSALS.everywhere("ramp(" + channel + ", 1, 0, 0)", IllegalArgumentException.class, x -> x.ramp(channel, 1, 0, 0));
            REFUSALS.everywhere("ramp(" + channel + ", 1201, 0, 0)", IllegalArgumentException.class, x -> x.ramp(channel, 1201, 0, 0));
        }
        for (int n : new int[] {-1, -1200, Integer.MIN_VALUE}) {
            REFUSALS.everywhere("ramp(0, " + n + ", 0, 0)", IllegalArgumentException.class, x -> x.ramp(0, n, 0, 0));
        }
        REFUSALS.refused("ramp(1, 0, 0, 0) of one channel", IllegalArgumentException.class, Recipes::oneChannel, x -> x.ramp(1, 0, 0, 0));
        REFUSALS.refused("ramp(1, -1, 0, 0)", IllegalArgumentException.class, Recipes::fullRows, x -> x.ramp(1, -1, 0, 0));
    }
}
