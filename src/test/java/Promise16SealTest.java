import java.util.Arrays;

/**
 * Promise 16: "The check of n bits of the stream's bytes from one on up to another one (left out), put behind them in place
 * of what is there (one byte, or two)."
 */
public final class Promise16SealTest {
    private static final Check CHECK = new Check();
    private static final Refusals REFUSALS = new Refusals(CHECK);

    public static void main(String[] args) {
        wellKnownChecks();
        everyByteAlone();
        everyStretch();
        noBytes();
        atTheEnd();
        sealedFrameIsRight();
        wrongBits();
        wrongBytes();
        CHECK.end();
    }

    private static long seal(SoundStream x, int n, int from, int to) {
        x.seal(n, from, to);
        return 0;
    }

    private static SoundStream digits() {
        SoundStream x = new SoundStream();
        x.feed(8, 0x3837363534333231L);
        x.feed(4, 0xffffff39L);
        return x;
    }

    private static void wellKnownChecks() {
        SoundStream x = digits();
        x.seal(8, 0, 9);
        // the well-known checks of the nine digits from 1 on
        CHECK.due("check8", x.stream(9), 0xfffff4L);
        CHECK.due("the bytes before stay", x.stream(0), 0x3837363534333231L);
        x.seal(16, 0, 9);
        CHECK.due("check16, its highest byte first", x.stream(9), 0xffe8feL);
        CHECK.due("no byte more", x.told(0), 12);
    }

    private static void everyByteAlone() {
        SoundStream x = new SoundStream();
        x.feed(4, 0);
        for (int v = 0; v < 256; v += 5) {
            x.spoil(1, v);
            x.seal(8, 1, 2);
            CHECK.due("check8 of " + v, x.stream(2) & 255, new Bits().put(8, v).check(8, 0));
            x.seal(16, 1, 2);
            CHECK.due("check16 of " + v, swapped(x.stream(2)), new Bits().put(8, v).check(16, 0));
            CHECK.due("the byte stays", x.stream(1) & 255, v);
        }
    }

    private static void everyStretch() {
        for (int from = 0; from <= 10; from++) {
            for (int to = from; to <= 10; to++) {
                SoundStream x = digits();
                x.seal(16, from, to);
                CHECK.due("check16 of " + from + " up to " + to, swapped(x.stream(to)), partCheck(digits(), 16, from, to));
                SoundStream y = digits();
                y.seal(8, from, to);
                CHECK.due("check8 of " + from + " up to " + to, y.stream(to) & 255, partCheck(digits(), 8, from, to));
                CHECK.due("the next byte stays", y.stream(to + 1), digits().stream(to + 1));
            }
        }
    }

    private static long partCheck(SoundStream x, int n, int from, int to) {
        Bits row = new Bits();
        for (int i = from; i < to; i++) {
            row.put(8, x.stream(i));
        }
        return row.check(n, 0);
    }

    private static long swapped(long check) {
        return (check & 255) << 8 | check >> 8 & 255;
    }

    private static void noBytes() {
        SoundStream x = digits();
        x.seal(8, 0, 0);
        CHECK.due("check8 of none at the front", x.stream(0) & 0xffff, 0x3200);
        x.seal(16, 3, 3);
        CHECK.due("check16 of none", x.stream(2) & 0xffffffffL, 0x36000033L);
    }

    private static void atTheEnd() {
        SoundStream x = digits();
        x.seal(8, 0, 11);
        CHECK.due("check8 in the last byte", x.stream(11), partCheck(digits(), 8, 0, 11));
        x.seal(8, 11, 11);
        CHECK.due("check8 of none in the last byte", x.stream(11), 0);
        x.seal(16, 0, 10);
        CHECK.due("check16 in the last two", swapped(x.stream(10)), partCheck(digits(), 16, 0, 10));
        x.seal(16, 10, 10);
        CHECK.due("check16 of none in the last two", x.stream(10), 0);
        SoundStream full = Recipes.fullStream();
        full.seal(16, 0, 8998);
        full.seal(8, 0, 8999);
        full.seal(8, 8999, 8999);
        CHECK.due("the last of 9000", full.stream(8999), 0);
    }

    private static void sealedFrameIsRight() {
        SoundStream x = new SoundStream();
        x.ramp(0, 10, 3, 0);
        x.encode(false);
        int end = x.told(0) - 2;
        // the sum is made unknown, and the constant another one
        for (int i = 26; i < 42; i++) {
            x.spoil(i, 0);
        }
        x.spoil(end - 1, 9);
        CHECK.due("not sealed", x.decode(), -1);
        x.seal(16, 42, end);
        CHECK.due("sealed", x.decode(), 10);
        CHECK.due("what is heard", x.heard(0, 9), 9);
    }

    private static void wrongBits() {
        int[][] wrong = {
            {7, 0, 1}, {9, 0, 1}, {15, 0, 1}, {17, 0, 1}, {0, 0, 1}, {-8, 0, 1}, {-16, 0, 1}, {24, 0, 1}, {32, 5, 1}, {7, -1, 99},
            {Integer.MIN_VALUE, 0, 0}, {Integer.MAX_VALUE, 0, 0}, {1, 0, 9000}
        };
        for (int[] e : wrong) {
            REFUSALS.everywhere("seal" + Arrays.toString(e), IllegalArgumentException.class, x -> seal(x, e[0], e[1], e[2]));
        }
    }

    private static void wrongBytes() {
        int[][] never = {
            {8, -1, 3}, {16, -1, 3}, {8, 4, 3}, {16, 4, 3}, {8, 1, 0}, {8, 0, 9000}, {16, 0, 8999}, {8, 9001, 9001},
            {8, 0, Integer.MAX_VALUE}, {16, 0, Integer.MAX_VALUE}, {16, 0, Integer.MAX_VALUE - 1}, {8, Integer.MIN_VALUE, -1},
            {8, -2, -1}, {16, Integer.MIN_VALUE, Integer.MIN_VALUE}, {8, Integer.MAX_VALUE, Integer.MAX_VALUE}, {8, Integer.MAX_VALUE, 0}
        };
        for (int[] e : never) {
            REFUSALS.everywhere("seal" + Arrays.toString(e), IndexOutOfBoundsException.class, x -> seal(x, e[0], e[1], e[2]));
        }
        REFUSALS.refused("seal(8, 0, 0) of none", IndexOutOfBoundsException.class, SoundStream::new, x -> seal(x, 8, 0, 0));
        Recipes.Recipe[] recipes = {Recipes::twoChannels, Recipes::faulty, Recipes::emptyRowsEncoded, Recipes::fullStream};
        for (Recipes.Recipe recipe : recipes) {
            REFUSALS.refused("no byte behind", IndexOutOfBoundsException.class, recipe, x -> seal(x, 8, 0, x.told(0)));
            REFUSALS.refused("no second byte behind", IndexOutOfBoundsException.class, recipe, x -> seal(x, 16, 0, x.told(0) - 1));
            REFUSALS.refused("no bytes behind", IndexOutOfBoundsException.class, recipe, x -> seal(x, 16, 0, x.told(0)));
        }
        SoundStream one = new SoundStream();
        one.feed(1, 5);
        CHECK.throwsIndexOutOfBounds("two bytes of one", () -> seal(one, 16, 0, 0));
        one.seal(8, 0, 0);
        CHECK.due("one byte of one", one.stream(0), 0);
    }
}
