/** Promises 1 to 7: a new object, form, sample, ramp, noise, clear, at. */
public final class RowsTest {
    private static final Check CHECK = new Check();

    public static void main(String[] args) {
        newObject();
        form();
        sample();
        ramp();
        noise();
        clear();
        at();
        refusedCallsChangeNothing();
        CHECK.end();
    }

    private static void newObject() {
        SoundStream x = new SoundStream();
        CHECK.due("NONE", SoundStream.NONE, -1);
        CHECK.throwsIndexOutOfBounds("new: at(0, 0)", () -> x.at(0, 0));
        CHECK.throwsIllegalArgument("new: at(1, 0)", () -> x.at(1, 0));
        CHECK.due("new: fault()", x.fault(), 0);
        CHECK.due("new: place()", x.place(), -1);
        CHECK.due("new: stream(0)", x.stream(0), 0);
        CHECK.due("new: told(0)", x.told(0), 0);
        CHECK.due("new: told(1)", x.told(1), 0);
        for (int what = 2; what <= 8; what++) {
            CHECK.due("new: told(" + what + ")", x.told(what), -1);
        }
        CHECK.throwsIndexOutOfBounds("new: frame(0, 0)", () -> x.frame(0, 0));
        CHECK.throwsIndexOutOfBounds("new: heard(0, 0)", () -> x.heard(0, 0));
        CHECK.throwsIndexOutOfBounds("new: heard(1, 0)", () -> x.heard(1, 0));
        x.encode(false);
        x.decode();
        CHECK.due("new: channels", x.told(2), 1);
        CHECK.due("new: depth", x.told(3), 16);
        CHECK.due("new: block", x.told(4), 64);
        CHECK.due("new: rate", x.told(5), 8000);
    }

    private static void form() {
        SoundStream x = new SoundStream();
        int[][] edges = {{1, 4, 16, 1}, {2, 24, 1024, 655350}, {2, 4, 1024, 1}, {1, 24, 16, 655350}};
        for (int[] e : edges) {
            x.sample(0, 1);
            x.form(e[0], e[1], e[2], e[3]);
            CHECK.throwsIndexOutOfBounds("form: row 0 is empty", () -> x.at(0, 0));
            x.encode(true);
            x.decode();
            for (int i = 0; i < 4; i++) {
                CHECK.due("form: told(" + (2 + i) + ")", x.told(2 + i), e[i]);
            }
        }
        int[][] wrong = {
            {0, 16, 64, 1}, {3, 16, 64, 1}, {-1, 16, 64, 1}, {1, 3, 64, 1}, {1, 25, 64, 1}, {1, -16, 64, 1},
            {1, 16, 15, 1}, {1, 16, 1025, 1}, {1, 16, 64, 0}, {1, 16, 64, 655351}, {1, 16, 64, Integer.MIN_VALUE},
            {Integer.MAX_VALUE, 16, 64, 1}
        };
        for (int[] e : wrong) {
            CHECK.throwsIllegalArgument("form" + java.util.Arrays.toString(e), () -> {
                x.form(e[0], e[1], e[2], e[3]);
                return 0;
            });
        }
    }

    private static void sample() {
        SoundStream x = new SoundStream();
        x.form(2, 4, 16, 1);
        int[] given = {0, 7, 8, -8, -9, 15, 16, Integer.MAX_VALUE, Integer.MIN_VALUE};
        int[] due = {0, 7, -8, -8, 7, -1, 0, -1, 0};
        for (int i = 0; i < given.length; i++) {
            CHECK.due("sample(1, " + given[i] + ")", x.sample(1, given[i]), i + 1);
            CHECK.due("wrapped " + given[i], x.at(1, i), due[i]);
        }
        CHECK.throwsIndexOutOfBounds("the other row stays empty", () -> x.at(0, 0));
        CHECK.throwsIllegalArgument("sample(2, 0)", () -> x.sample(2, 0));
        CHECK.throwsIllegalArgument("sample(-1, 0)", () -> x.sample(-1, 0));
        x.ramp(0, 1199, 0, 0);
        CHECK.due("the last sample", x.sample(0, 3), 1200);
        CHECK.due("one too many", x.sample(0, 4), -1);
        CHECK.due("the last stays", x.at(0, 1199), 3);
        x.form(1, 24, 16, 1);
        CHECK.throwsIllegalArgument("sample(1, 0) of one channel", () -> x.sample(1, 0));
        x.sample(0, 1 << 23);
        CHECK.due("wrapped into 24 bits", x.at(0, 0), -(1 << 23));
    }

    private static void ramp() {
        SoundStream x = new SoundStream();
        x.form(2, 8, 16, 1);
        CHECK.due("ramp(1, 5, 100, 20)", x.ramp(1, 5, 100, 20), 5);
        int[] due = {100, 120, -116, -96, -76};
        for (int i = 0; i < due.length; i++) {
            CHECK.due("ramp's sample " + i, x.at(1, i), due[i]);
        }
        CHECK.due("ramp of none", x.ramp(1, 0, 9, 9), 5);
        CHECK.due("wrapping ints", x.ramp(0, 2, Integer.MAX_VALUE, 3), 2);
        CHECK.due("before wrapping", x.at(0, 0), -1);
        CHECK.due("behind wrapping", x.at(0, 1), 2);
        CHECK.due("too many", x.ramp(0, 1199, 0, 0), -1);
        CHECK.due("far too many", x.ramp(0, Integer.MAX_VALUE, 0, 0), -1);
        CHECK.due("just as many", x.ramp(0, 1198, 0, 1), 1200);
        CHECK.due("none more", x.ramp(0, 0, 0, 1), 1200);
        CHECK.due("one more", x.ramp(0, 1, 0, 1), -1);
        CHECK.throwsIllegalArgument("n below 0", () -> x.ramp(0, -1, 0, 0));
        CHECK.throwsIllegalArgument("n far below 0", () -> x.ramp(0, Integer.MIN_VALUE, 0, 0));
        CHECK.throwsIllegalArgument("ramp(2, ..)", () -> x.ramp(2, 1, 0, 0));
        CHECK.throwsIllegalArgument("ramp(-1, ..)", () -> x.ramp(-1, 2000, 0, 0));
    }

    private static void noise() {
        SoundStream x = new SoundStream();
        int[] depths = {4, 12, 24};
        int[] bits = {1, 2, 12, 23, 24};
        for (int depth : depths) {
            for (int each : bits) {
                x.form(2, depth, 16, 1);
                CHECK.due("noise", x.noise(1, 20, -7 * each, each), 20);
                long seed = -7 * each;
                for (int i = 0; i < 20; i++) {
                    seed = (int) (1103515245L * seed + 12345);
                    long v = Math.floorDiv(seed, 1L << (32 - each));
                    long range = 1L << depth;
                    v = Math.floorMod(v + range / 2, range) - range / 2;
                    CHECK.due("noise of " + each + " bits, sample " + i, x.at(1, i), v);
                }
            }
        }
        CHECK.due("noise of none", x.noise(1, 0, 1, 1), 20);
        CHECK.due("too much noise", x.noise(1, 1181, 1, 1), -1);
        CHECK.due("just enough", x.noise(1, 1180, 1, 1), 1200);
        CHECK.due("far too much", x.noise(0, Integer.MAX_VALUE, 1, 1), -1);
        CHECK.throwsIllegalArgument("bits 0", () -> x.noise(0, 1, 1, 0));
        CHECK.throwsIllegalArgument("bits 25", () -> x.noise(0, 1, 1, 25));
        CHECK.throwsIllegalArgument("bits 25 of too many", () -> x.noise(1, 1, 1, 25));
        CHECK.throwsIllegalArgument("n -1", () -> x.noise(0, -1, 1, 5));
        CHECK.throwsIllegalArgument("channel 2", () -> x.noise(2, 1, 1, 5));
        CHECK.throwsIllegalArgument("channel -1", () -> x.noise(-1, 1, 1, 5));
    }

    private static void clear() {
        SoundStream x = new SoundStream();
        x.form(2, 8, 16, 1);
        x.ramp(0, 30, 0, 1);
        x.ramp(1, 40, 0, 1);
        x.clear();
        CHECK.throwsIndexOutOfBounds("clear: row 0", () -> x.at(0, 0));
        CHECK.throwsIndexOutOfBounds("clear: row 1", () -> x.at(1, 0));
        CHECK.due("clear keeps the form", x.sample(1, 128), 1);
        CHECK.due("clear keeps the depth", x.at(1, 0), -128);
    }

    private static void at() {
        SoundStream x = new SoundStream();
        x.ramp(0, 3, 5, 1);
        CHECK.due("at(0, 2)", x.at(0, 2), 7);
        CHECK.throwsIndexOutOfBounds("at(0, 3)", () -> x.at(0, 3));
        CHECK.throwsIndexOutOfBounds("at(0, -1)", () -> x.at(0, -1));
        CHECK.throwsIndexOutOfBounds("at(0, MAX)", () -> x.at(0, Integer.MAX_VALUE));
        CHECK.throwsIllegalArgument("at(1, 0) of one channel", () -> x.at(1, 0));
        CHECK.throwsIllegalArgument("at(2, -1): the channel comes first", () -> x.at(2, -1));
        CHECK.throwsIllegalArgument("at(MIN, 0)", () -> x.at(Integer.MIN_VALUE, 0));
    }

    private static void refusedCallsChangeNothing() {
        SoundStream x = new SoundStream();
        x.form(1, 8, 32, 5);
        x.ramp(0, 3, 5, 1);
        CHECK.throwsIllegalArgument("form", () -> {
            x.form(2, 8, 32, 0);
            return 0;
        });
        CHECK.due("too many", x.ramp(0, 1198, 9, 9), -1);
        CHECK.due("too much noise", x.noise(0, 1198, 9, 9), -1);
        CHECK.due("the row is as before", x.sample(0, 300), 4);
        CHECK.due("and the depth", x.at(0, 3), 44);
        CHECK.throwsIllegalArgument("and the channels", () -> x.at(1, 0));
    }
}
