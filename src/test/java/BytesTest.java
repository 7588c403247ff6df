/** Promises 12 to 16: stream, feed, cut, spoil, seal. */
public final class BytesTest {
    private static final Check CHECK = new Check();

    public static void main(String[] args) {
        stream();
        feed();
        feedToTheBrim();
        cut();
        spoil();
        seal();
        CHECK.end();
    }

    private static SoundStream withTwelve() {
        SoundStream x = new SoundStream();
        x.feed(8, 0x8877665544332211L);
        x.feed(4, 0x00000000ccbbaa99L);
        return x;
    }

    private static void stream() {
        SoundStream x = withTwelve();
        CHECK.due("stream(0)", x.stream(0), 0x8877665544332211L);
        CHECK.due("stream(3)", x.stream(3), 0xbbaa998877665544L);
        CHECK.due("stream(8)", x.stream(8), 0xccbbaa99L);
        CHECK.due("stream(11)", x.stream(11), 0xccL);
        CHECK.due("stream(12)", x.stream(12), 0);
        CHECK.due("stream(-3)", x.stream(-3), 0x5544332211000000L);
        CHECK.due("stream(-7)", x.stream(-7), 0x1100000000000000L);
        CHECK.due("stream(-8)", x.stream(-8), 0);
        CHECK.due("stream(MAX)", x.stream(Integer.MAX_VALUE), 0);
        CHECK.due("stream(MAX - 3)", x.stream(Integer.MAX_VALUE - 3), 0);
        CHECK.due("stream(MIN)", x.stream(Integer.MIN_VALUE), 0);
        x.cut(2);
        CHECK.due("bytes that were cut", x.stream(0), 0x2211);
        x.feed(1, 5);
        CHECK.due("and are not there again", x.stream(1), 0x0522);
    }

    private static void feed() {
        SoundStream x = new SoundStream();
        int length = 0;
        for (int n = 1; n <= 8; n++) {
            length += n;
            CHECK.due("feed(" + n + ")", x.feed(n, 0xf1f2f3f4f5f6f7f8L), length);
            long due = n == 8 ? 0xf1f2f3f4f5f6f7f8L : 0xf1f2f3f4f5f6f7f8L & ((1L << (8 * n)) - 1);
            CHECK.due("the bytes of feed(" + n + ")", x.stream(length - n), due);
        }
        CHECK.throwsIllegalArgument("feed(0)", () -> x.feed(0, 1));
        CHECK.throwsIllegalArgument("feed(9)", () -> x.feed(9, 1));
        CHECK.throwsIllegalArgument("feed(-1)", () -> x.feed(-1, 1));
        CHECK.throwsIllegalArgument("feed(MIN)", () -> x.feed(Integer.MIN_VALUE, 1));
        CHECK.due("nothing came", x.told(0), length);
    }

    private static void feedToTheBrim() {
        SoundStream x = new SoundStream();
        x.form(2, 24, 16, 1);
        x.noise(0, 1200, 99, 24);
        x.noise(1, 1200, 7, 24);
        int length = x.encode(true);
        while (length + 8 < 9000) {
            length += 8;
            CHECK.due("feed(8)", x.feed(8, -1), length);
        }
        int left = 9000 - length;
        if (left < 8) {
            CHECK.due("one too many", x.feed(left + 1, -1), -1);
        }
        CHECK.due("to the brim", x.feed(left, -1), 9000);
        CHECK.due("no more", x.feed(1, -1), -1);
        CHECK.throwsIllegalArgument("no more, and wrong", () -> x.feed(9, -1));
        CHECK.due("told(0)", x.told(0), 9000);
        CHECK.due("the last byte", x.stream(8999), 255);
        CHECK.due("decode of a full stream", x.decode(), -1);
    }

    private static void cut() {
        SoundStream x = withTwelve();
        CHECK.throwsIllegalArgument("cut(13)", () -> x.cut(13));
        CHECK.throwsIllegalArgument("cut(-1)", () -> x.cut(-1));
        CHECK.throwsIllegalArgument("cut(MIN)", () -> x.cut(Integer.MIN_VALUE));
        CHECK.due("cut(12)", x.cut(12), 12);
        CHECK.due("cut(9)", x.cut(9), 12);
        CHECK.due("told(0)", x.told(0), 9);
        CHECK.due("stream(8)", x.stream(8), 0x99);
        CHECK.due("cut(0)", x.cut(0), 9);
        CHECK.due("cut(0) again", x.cut(0), 0);
        CHECK.throwsIllegalArgument("cut(1)", () -> x.cut(1));
    }

    private static void spoil() {
        SoundStream x = withTwelve();
        CHECK.due("spoil(0, 255)", x.spoil(0, 255), 0x11);
        CHECK.due("spoil(0, 0)", x.spoil(0, 0), 255);
        CHECK.due("spoil(11, 7)", x.spoil(11, 7), 0xcc);
        CHECK.due("stream(0)", x.stream(0), 0x8877665544332200L);
        CHECK.due("stream(8)", x.stream(8), 0x07bbaa99L);
        CHECK.throwsIndexOutOfBounds("spoil(12, 0)", () -> x.spoil(12, 0));
        CHECK.throwsIndexOutOfBounds("spoil(-1, 0)", () -> x.spoil(-1, 0));
        CHECK.throwsIndexOutOfBounds("spoil(12, 256): the byte comes first", () -> x.spoil(12, 256));
        CHECK.throwsIllegalArgument("spoil(3, 256)", () -> x.spoil(3, 256));
        CHECK.throwsIllegalArgument("spoil(3, -1)", () -> x.spoil(3, -1));
        CHECK.due("byte 3 stays", x.spoil(3, 1), 0x44);
    }

    private static void seal() {
        SoundStream x = new SoundStream();
        byte[] text = "123456789".getBytes(java.nio.charset.StandardCharsets.ISO_8859_1);
        for (byte each : text) {
            x.feed(1, each);
        }
        x.feed(3, -1);
        x.seal(8, 0, 9);
        // the well-known checks of these nine bytes
        CHECK.due("check8", x.stream(9), 0xfffff4L);
        x.seal(16, 0, 9);
        CHECK.due("check16, its highest byte first", x.stream(9), 0xffe8feL);
        x.seal(16, 4, 10);
        CHECK.due("check16 of a part", x.stream(10), swapped(partCheck(x, 16, 4, 10)));
        x.seal(8, 11, 11);
        CHECK.due("check8 of no bytes", x.stream(11), 0);
        x.seal(8, 0, 11);
        CHECK.due("check8 of all bytes but the last", x.stream(11), partCheck(x, 8, 0, 11));
        CHECK.due("no byte more", x.told(0), 12);
        wrongSeals(x);
    }

    private static void wrongSeals(SoundStream x) {
        long first = x.stream(0);
        long then = x.stream(8);
        int[][] wrongBits = {{9, 0, 1}, {0, 0, 1}, {-8, 0, 1}, {32, 5, 1}, {7, -1, 99}};
        for (int[] e : wrongBits) {
            CHECK.throwsIllegalArgument("seal" + java.util.Arrays.toString(e), () -> {
                x.seal(e[0], e[1], e[2]);
                return 0;
            });
        }
        int[][] wrongBytes = {
            {8, 0, 12}, {16, 0, 11}, {8, -1, 3}, {16, 4, 3}, {8, 13, 13}, {8, 0, Integer.MAX_VALUE},
            {16, 0, Integer.MAX_VALUE}, {8, Integer.MIN_VALUE, -1}, {8, -2, -1}
        };
        for (int[] e : wrongBytes) {
            CHECK.throwsIndexOutOfBounds("seal" + java.util.Arrays.toString(e), () -> {
                x.seal(e[0], e[1], e[2]);
                return 0;
            });
        }
        CHECK.due("the stream stays", x.stream(0), first);
        CHECK.due("the stream stays, too", x.stream(8), then);
        SoundStream empty = new SoundStream();
        CHECK.throwsIndexOutOfBounds("seal of an empty stream", () -> {
            empty.seal(8, 0, 0);
            return 0;
        });
    }

    private static long partCheck(SoundStream x, int n, int from, int to) {
        Bits row = new Bits();
        for (int i = from; i < to; i++) {
            row.put(8, x.stream(i));
        }
        return row.check(n, 0);
    }

    private static long swapped(long check) {
        return (check & 255) << 8 | check >> 8;
    }
}
