/**
 * Promise 20: "Sample i of a channel that was decoded. IllegalArgumentException: channel is not 0 or 1.
 * IndexOutOfBoundsException: there is none such."
 */
public final class Promise20HeardTest {
    private static final Check CHECK = new Check();
    private static final Refusals REFUSALS = new Refusals(CHECK);

    public static void main(String[] args) {
        firstAndLast();
        fullRows();
        secondOfOneChannel();
        untilTheNextDecode();
        noSuchChannel();
        noSuchSample();
        CHECK.end();
    }

    private static void firstAndLast() {
        SoundStream x = new SoundStream();
        x.form(2, 16, 16, 1);
        x.ramp(0, 20, 5, 3);
        x.ramp(1, 20, -5, -3);
        x.encode(true);
        CHECK.throwsIndexOutOfBounds("nothing was decoded", () -> x.heard(0, 0));
        x.decode();
        CHECK.due("heard(0, 0)", x.heard(0, 0), 5);
        CHECK.due("heard(1, 0)", x.heard(1, 0), -5);
        CHECK.due("heard(0, 19)", x.heard(0, 19), 62);
        CHECK.due("heard(1, 19)", x.heard(1, 19), -62);
        for (int channel = 0; channel < 2; channel++) {
            int one = channel;
            CHECK.throwsIndexOutOfBounds("heard(" + channel + ", 20)", () -> x.heard(one, 20));
            CHECK.throwsIndexOutOfBounds("heard(" + channel + ", -1)", () -> x.heard(one, -1));
        }
    }

    private static void fullRows() {
        for (int depth : new int[] {4, 24}) {
            SoundStream x = new SoundStream();
            x.form(2, depth, 1024, 1);
            x.noise(0, 1200, 9, depth);
            x.noise(1, 1200, 10, depth);
            x.encode(false);
            x.decode();
            for (int i : new int[] {0, 1, 1023, 1024, 1198, 1199}) {
                CHECK.due("heard(0, " + i + ")", x.heard(0, i), x.at(0, i));
                CHECK.due("heard(1, " + i + ")", x.heard(1, i), x.at(1, i));
            }
            CHECK.throwsIndexOutOfBounds("heard(0, 1200)", () -> x.heard(0, 1200));
            CHECK.throwsIndexOutOfBounds("heard(1, 1200)", () -> x.heard(1, 1200));
        }
    }

    private static void secondOfOneChannel() {
        SoundStream x = Recipes.oneChannel();
        CHECK.throwsIndexOutOfBounds("heard(1, 0) of one channel", () -> x.heard(1, 0));
        SoundStream y = Recipes.twoChannels();
        CHECK.due("heard(1, 0) of two", y.heard(1, 0), -7);
        y.form(1, 8, 16, 1);
        y.ramp(0, 50, 3, 0);
        y.encode(false);
        CHECK.due("not before decode()", y.heard(1, 0), -7);
        y.decode();
        CHECK.throwsIndexOutOfBounds("the second one does not stay", () -> y.heard(1, 0));
        CHECK.due("the first one", y.heard(0, 49), 3);
    }

    private static void untilTheNextDecode() {
        SoundStream x = Recipes.twoChannels();
        int heard = x.heard(0, 39);
        x.clear();
        x.form(1, 8, 16, 1);
        x.cut(3);
        CHECK.due("other calls leave it", x.heard(0, 39), heard);
        x.decode();
        for (int channel = 0; channel < 2; channel++) {
            int one = channel;
            CHECK.throwsIndexOutOfBounds("heard(" + channel + ", 0) behind a fault", () -> x.heard(one, 0));
        }
        x.sample(0, 9);
        x.encode(false);
        CHECK.throwsIndexOutOfBounds("what is encoded is not heard", () -> x.heard(0, 0));
        x.decode();
        CHECK.due("one sample", x.heard(0, 0), 9);
        CHECK.throwsIndexOutOfBounds("less than before", () -> x.heard(0, 1));
        x.clear();
        x.encode(false);
        x.decode();
        CHECK.throwsIndexOutOfBounds("none at all", () -> x.heard(0, 0));
        faultBehindGoodFrames();
    }

    /** "Nothing is decoded then": not even the frames before the fault. */
    private static void faultBehindGoodFrames() {
        SoundStream x = Recipes.twoChannels();
        x.cut(x.told(0) - 1);
        x.decode();
        CHECK.throwsIndexOutOfBounds("heard(0, 0) of good frames before a fault", () -> x.heard(0, 0));
        CHECK.throwsIndexOutOfBounds("heard(1, 0) of good frames before a fault", () -> x.heard(1, 0));
    }

    private static void noSuchChannel() {
        for (int channel : new int[] {-1, 2, Integer.MIN_VALUE, Integer.MAX_VALUE}) {
            REFUSALS.everywhere("heard(" + channel + ", 0)", IllegalArgumentException.class, x -> x.heard(channel, 0));
            String first = "heard(" + channel + ", 1200): the channel comes first";
            REFUSALS.everywhere(first, IllegalArgumentException.class, x -> x.heard(channel, 1200));
        }
    }

    private static void noSuchSample() {
        for (int i : new int[] {-1, 1200, Integer.MIN_VALUE, Integer.MAX_VALUE}) {
            for (int channel = 0; channel < 2; channel++) {
                int one = channel;
                REFUSALS.everywhere("heard(" + channel + ", " + i + ")", IndexOutOfBoundsException.class, x -> x.heard(one, i));
            }
        }
        REFUSALS.refused("heard(0, 0) of a new object", IndexOutOfBoundsException.class, SoundStream::new, x -> x.heard(0, 0));
        REFUSALS.refused("heard(1, 0) of a new object", IndexOutOfBoundsException.class, SoundStream::new, x -> x.heard(1, 0));
        REFUSALS.refused("heard(0, 20) of 20", IndexOutOfBoundsException.class, Recipes::oneChannel, x -> x.heard(0, 20));
        REFUSALS.refused("heard(0, 0) behind a fault", IndexOutOfBoundsException.class, Recipes::faulty, x -> x.heard(0, 0));
        REFUSALS.refused("heard(1, 0) of none", IndexOutOfBoundsException.class, Recipes::emptyRowsEncoded, x -> x.heard(1, 0));
    }
}
