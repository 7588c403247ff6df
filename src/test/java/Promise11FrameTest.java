/** Promise 11: what is told of frame k of what was encoded last. */
public final class Promise11FrameTest {
    private static final Check CHECK = new Check();
    private static final Refusals REFUSALS = new Refusals(CHECK);

    public static void main(String[] args) {
        placesAndBytes();
        firstSubframe();
        secondSubframe();
        noneForOneChannel();
        ofWhatWasEncodedLast();
        anotherWhat();
        noSuchFrame();
        CHECK.end();
    }

    private static void placesAndBytes() {
        SoundStream x = new SoundStream();
        x.form(1, 12, 16, 1);
        x.noise(0, 50, 3, 11);
        int length = x.encode(false);
        int at = 42;
        for (int k = 0; k < 4; k++) {
            CHECK.due("frame " + k + " begins behind the one before", x.frame(k, 0), at);
            CHECK.due("its first bytes", x.stream(at) & 0xffff, 0xf8ff);
            CHECK.due("its number", x.stream(at + 4) & 255, k);
            at += x.frame(k, 1);
        }
        CHECK.due("the last frame ends with the stream", at, length);
    }

    private static void firstSubframe() {
        SoundStream x = new SoundStream();
        x.ramp(0, 130, 0, 4);
        x.encode(false);
        // type 10 with w 2: two samples of 14 bits, and a part of 62 rests 0 in no bits
        int[] due = {42, 4 + 1 + 1 + 1 + 7 + 2, 0, 10, 2, 8 + 2 + 2 * 14 + 6 + 9, -1, -1, -1};
        for (int what = 0; what <= 8; what++) {
            CHECK.due("frame(0, " + what + ")", x.frame(0, what), due[what]);
        }
        CHECK.due("type 9 of two samples", x.frame(2, 3), 9);
        CHECK.due("w of two samples", x.frame(2, 4), 2);
        CHECK.due("bits of two samples", x.frame(2, 5), 8 + 2 + 14 + 6 + 4 + 3);
        x.form(1, 8, 16, 1);
        x.ramp(0, 16, 0, 0);
        x.ramp(0, 16, -128, 0);
        x.ramp(0, 1, 127, 0);
        x.encode(true);
        int[][] then = {{0, 0, 16}, {0, 7, 16}, {0, 0, 16}};
        for (int k = 0; k < 3; k++) {
            for (int i = 0; i < 3; i++) {
                CHECK.due("frame(" + k + ", " + (3 + i) + ")", x.frame(k, 3 + i), then[k][i]);
            }
        }
    }

    private static void secondSubframe() {
        SoundStream x = new SoundStream();
        x.form(2, 8, 16, 1);
        x.noise(0, 16, 5, 8);
        x.ramp(1, 16, 64, 0);
        x.encode(false);
        int[] due = {42, 7 + 8 * 17 / 8 + 2 + 2, 1, 1, 0, 8 + 16 * 8, 0, 6, 8 + 6 + 2};
        for (int what = 0; what <= 8; what++) {
            CHECK.due("two channels: frame(0, " + what + ")", x.frame(0, what), due[what]);
        }
        x.clear();
        x.noise(0, 16, 5, 7);
        x.noise(1, 16, 5, 7);
        x.encode(false);
        int[] alike = {8, 0, 0, 17};
        CHECK.due("the same twice: C", x.frame(0, 2), alike[0]);
        for (int i = 0; i < 3; i++) {
            CHECK.due("the same twice: frame(0, " + (6 + i) + ")", x.frame(0, 6 + i), alike[1 + i]);
        }
    }

    private static void noneForOneChannel() {
        SoundStream x = Recipes.oneChannel();
        for (int k = 0; k < 2; k++) {
            for (int what = 6; what <= 8; what++) {
                CHECK.due("frame(" + k + ", " + what + ")", x.frame(k, what), -1);
            }
        }
        SoundStream y = Recipes.twoChannels();
        y.form(1, 8, 16, 1);
        y.sample(0, 3);
        y.encode(false);
        CHECK.due("also when there was one before", y.frame(0, 6), -1);
    }

    private static void ofWhatWasEncodedLast() {
        SoundStream x = Recipes.twoChannels();
        int place = x.frame(2, 0);
        x.cut(0);
        x.form(1, 4, 16, 1);
        x.sample(0, 1);
        x.decode();
        CHECK.due("whatever is done but for encode()", x.frame(2, 0), place);
        x.encode(false);
        CHECK.due("then there is one frame", x.frame(0, 0), 42);
        CHECK.throwsIndexOutOfBounds("and no third one", () -> x.frame(2, 0));
        CHECK.throwsIndexOutOfBounds("and no second one", () -> x.frame(1, 0));
        x.clear();
        x.encode(false);
        CHECK.throwsIndexOutOfBounds("no frame of empty rows", () -> x.frame(0, 0));
    }

    private static void anotherWhat() {
        for (int what : new int[] {-1, 9, Integer.MIN_VALUE, Integer.MAX_VALUE}) {
            for (int k : new int[] {0, -1, 3, Integer.MIN_VALUE, Integer.MAX_VALUE}) {
                String call = "frame(" + k + ", " + what + "): what comes first";
                REFUSALS.everywhere(call, IllegalArgumentException.class, x -> x.frame(k, what));
            }
        }
    }

    private static void noSuchFrame() {
        for (int k : new int[] {-1, 75, Integer.MIN_VALUE, Integer.MAX_VALUE}) {
            for (int what = 0; what <= 8; what += 4) {
                int one = what;
                REFUSALS.everywhere("frame(" + k + ", " + what + ")", IndexOutOfBoundsException.class, x -> x.frame(k, one));
            }
        }
        REFUSALS.refused("frame(0, 0) of none", IndexOutOfBoundsException.class, SoundStream::new, x -> x.frame(0, 0));
        REFUSALS.refused("frame(0, 8) of empty rows", IndexOutOfBoundsException.class, Recipes::emptyRowsEncoded, x -> x.frame(0, 8));
        REFUSALS.refused("frame(2, 8) of two", IndexOutOfBoundsException.class, Recipes::oneChannel, x -> x.frame(2, 8));
        SoundStream most = new SoundStream();
        most.form(1, 4, 16, 1);
        most.ramp(0, 1200, 1, 1);
        most.encode(true);
        CHECK.due("the last of 75", most.frame(74, 0) + most.frame(74, 1), most.told(0));
        CHECK.throwsIndexOutOfBounds("one behind the last of 75", () -> most.frame(75, 0));
    }
}
