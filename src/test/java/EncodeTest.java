/**
 * Promises 9 to 11: encode, told, frame; the streams against a second encoder.
 * Looking at every sample and byte takes more calls than the 512 that the document speaks of; this program has no such end.
 */
public final class EncodeTest {
    private static final Check CHECK = new Check();

    public static void main(String[] args) {
        againstPlainEncoder();
        fullStreams();
        emptyRows();
        choices();
        told();
        frame();
        unlikeRows();
        CHECK.end();
    }

    private static void againstPlainEncoder() {
        java.util.Random random = new java.util.Random(12);
        for (int round = 0; round < 400; round++) {
            SoundStream x = new SoundStream();
            int channels = 1 + random.nextInt(2);
            int depth = random.nextInt(4) == 0 ? 24 : 4 + random.nextInt(21);
            int block = random.nextInt(3) == 0 ? 16 << random.nextInt(7) : 16 + random.nextInt(80);
            int rate = 1 + random.nextInt(655350);
            x.form(channels, depth, block, rate);
            int length = random.nextInt(5) == 0 ? random.nextInt(1201) : random.nextInt(200);
            fill(x, random, channels, depth, length);
            compare(x, channels, depth, block, rate, length, random.nextBoolean());
        }
    }

    /** Rows of pieces of many kinds, the second one often near the first one. */
    private static void fill(SoundStream x, java.util.Random random, int channels, int depth, int length) {
        boolean near = random.nextBoolean();
        int kind = random.nextInt(8);
        int scale = random.nextInt(3) == 0 ? random.nextInt(depth) : 0;
        int made = 0;
        while (made < length) {
            int n = Math.min(length - made, 1 + random.nextInt(60));
            if (kind == 7 || random.nextInt(6) == 0) {
                kind = random.nextInt(8);
            }
            int v = random.nextInt();
            int step = random.nextInt(1 << 1 + random.nextInt(depth));
            int bits = 1 + random.nextInt(Math.min(depth, 12));
            for (int i = 0; i < n; i++) {
                double wave = Math.sin((made + i) * (0.01 + 0.02 * kind)) * (1 << (depth - 2));
                int one = kind == 0 ? 0 : kind == 1 ? v : kind == 2 ? v + step * i : kind == 3 ? (int) wave
                    : kind == 4 ? random.nextInt(1 << bits) : kind == 5 ? (int) wave + random.nextInt(1 << bits)
                    : random.nextInt();
                one = one >> scale << scale;
                x.sample(0, one);
                if (channels == 2) {
                    int two = near ? x.at(0, made + i) + (random.nextInt(3) << scale) : random.nextInt(1 << bits) << scale;
                    x.sample(1, two);
                }
            }
            made += n;
        }
    }

    private static void compare(SoundStream x, int channels, int depth, int block, int rate, int length, boolean v) {
        int[][] rows = new int[channels][length];
        long[][] wide = new long[channels][length];
        for (int c = 0; c < channels; c++) {
            for (int i = 0; i < length; i++) {
                rows[c][i] = x.at(c, i);
                wide[c][i] = rows[c][i];
            }
        }
        byte[] sum = PlainDecoder.sum(wide, channels, length, depth);
        byte[] due = new PlainEncoder(rows, depth, block, rate, sum).encode(v);
        String form = channels + " x " + length + " of " + depth + " bits in blocks of " + block;
        CHECK.due("encode of " + form, x.encode(v), due.length);
        CHECK.due("told(0) of " + form, x.told(0), due.length);
        CHECK.due("the first other byte of " + form, firstOther(x, due), -1);
        CHECK.due("decode of " + form, x.decode(), length);
        CHECK.due("fault of " + form, x.fault(), 0);
        CHECK.due("told(1) of " + form, x.told(1), (length + block - 1) / block);
        CHECK.due("told(7) of " + form, x.told(7), (length + block - 1) / block);
        for (int c = 0; c < channels; c++) {
            for (int i = 0; i < length; i++) {
                if (x.heard(c, i) != rows[c][i]) {
                    CHECK.due("heard(" + c + ", " + i + ") of " + form, x.heard(c, i), rows[c][i]);
                }
            }
        }
        framesAsTold(x, due, channels, block, length);
    }

    private static int firstOther(SoundStream x, byte[] due) {
        for (int i = 0; i < due.length; i++) {
            if ((byte) x.stream(i) != due[i]) {
                return i;
            }
        }
        return x.stream(due.length) == 0 ? -1 : due.length;
    }

    /** What frame() tells must be what stands in the stream. */
    private static void framesAsTold(SoundStream x, byte[] all, int channels, int block, int length) {
        int at = 42;
        for (int k = 0; k < x.told(1); k++) {
            CHECK.due("frame(k, 0)", x.frame(k, 0), at);
            int c = all[at + 3] >> 4 & 15;
            CHECK.due("frame(k, 2)", x.frame(k, 2), c);
            int size = Math.min(block, length - k * block);
            int head = 4 + ((all[at + 4] & 128) == 0 ? 1 : 2) + (size <= 256 ? 1 : 2) + 1;
            CHECK.due("frame(k, 3)", x.frame(k, 3), all[at + head] >> 1);
            CHECK.due("w as the bit", x.frame(k, 4) > 0 ? 1 : 0, all[at + head] & 1);
            long bits = x.frame(k, 5) + (channels == 2 ? x.frame(k, 8) : 0);
            CHECK.due("frame(k, 1)", x.frame(k, 1), head + (bits + 7) / 8 + 2);
            if (channels == 1) {
                for (int what = 6; what <= 8; what++) {
                    CHECK.due("frame(k, " + what + ") of one channel", x.frame(k, what), -1);
                }
            } else {
                int second = 8 * (at + head) + x.frame(k, 5);
                int lead = ((all[second / 8] & 255) << 8 | all[second / 8 + 1] & 255) >> (8 - second % 8) & 255;
                CHECK.due("frame(k, 6)", x.frame(k, 6), lead >> 1);
                CHECK.due("second w as the bit", x.frame(k, 7) > 0 ? 1 : 0, lead & 1);
            }
            at += x.frame(k, 1);
        }
        CHECK.due("the frames fill the stream", at, all.length);
    }

    /** The longest streams that rows can give stay within what a stream can hold. */
    private static void fullStreams() {
        int[] blocks = {16, 17, 256, 257, 1024};
        for (int block : blocks) {
            SoundStream x = new SoundStream();
            x.form(2, 24, block, 655350);
            x.noise(0, 1200, 99, 24);
            x.noise(1, 1200, 7, 24);
            compare(x, 2, 24, block, 655350, 1200, true);
            compare(x, 2, 24, block, 655350, 1200, false);
        }
    }

    private static void emptyRows() {
        SoundStream x = new SoundStream();
        x.form(2, 20, 100, 44100);
        CHECK.due("encode of empty rows", x.encode(false), 42);
        CHECK.due("least and greatest bytes of a frame", x.stream(12) & 0xffffffffffffL, 0);
        CHECK.due("frames of empty rows", x.told(1), 0);
        CHECK.due("the sum of none", x.stream(26), x.sum(0));
        CHECK.due("the sum of none, other half", x.stream(34), x.sum(1));
        CHECK.due("decode", x.decode(), 0);
        CHECK.due("the sum is known", x.told(8), 1);
        CHECK.throwsIndexOutOfBounds("frame(0, 0)", () -> x.frame(0, 0));
    }

    /** Ties and edges of the choice: the first one with the fewest bits. */
    private static void choices() {
        SoundStream x = new SoundStream();
        x.form(2, 8, 16, 1);
        x.ramp(0, 16, 0, 0);
        x.ramp(1, 16, 0, 0);
        x.encode(false);
        CHECK.due("all zeros: C", x.frame(0, 2), 1);
        CHECK.due("all zeros: type", x.frame(0, 3), 0);
        CHECK.due("all zeros: w", x.frame(0, 4), 0);
        CHECK.due("all zeros: bits", x.frame(0, 5), 16);
        x.form(1, 8, 16, 1);
        x.ramp(0, 16, -128, 0);
        x.encode(false);
        CHECK.due("all lowest: type", x.frame(0, 3), 0);
        CHECK.due("all lowest: w", x.frame(0, 4), 7);
        CHECK.due("all lowest: bits", x.frame(0, 5), 16);
        x.form(1, 8, 16, 1);
        x.sample(0, 77);
        x.encode(false);
        CHECK.due("one sample: type 0 comes before 1", x.frame(0, 3), 0);
        x.form(1, 24, 16, 1);
        x.sample(0, 1);
        x.sample(0, 2);
        x.encode(true);
        CHECK.due("two samples: o stays below the size", x.frame(0, 3), 8);
        CHECK.due("two samples: bits", x.frame(0, 5), 8 + 6 + 4 + 3 + 4);
    }

    private static void told() {
        SoundStream x = new SoundStream();
        x.form(2, 10, 16, 123456);
        x.ramp(0, 40, 0, 1);
        x.ramp(1, 40, 0, 3);
        int bytes = x.encode(true);
        int[] due = {bytes, 3, -1, -1, -1, -1, -1, -1, -1};
        for (int what = 0; what <= 8; what++) {
            CHECK.due("told(" + what + ") before decoding", x.told(what), due[what]);
        }
        x.decode();
        int[] then = {bytes, 3, 2, 10, 16, 123456, 40, 3, 1};
        for (int what = 0; what <= 8; what++) {
            CHECK.due("told(" + what + ")", x.told(what), then[what]);
        }
        x.form(1, 5, 20, 9);
        x.cut(41);
        CHECK.due("told(0) behind cut", x.told(0), 41);
        CHECK.due("what was encoded last stays", x.told(1), 3);
        CHECK.due("what was decoded last stays", x.told(3), 10);
        CHECK.due("heard stays", x.heard(1, 39), 117);
        x.decode();
        for (int what = 2; what <= 8; what++) {
            CHECK.due("told(" + what + ") behind a fault", x.told(what), -1);
        }
        CHECK.due("told(1) behind a fault", x.told(1), 3);
        CHECK.throwsIllegalArgument("told(9)", () -> x.told(9));
        CHECK.throwsIllegalArgument("told(-1)", () -> x.told(-1));
        CHECK.throwsIllegalArgument("told(MIN)", () -> x.told(Integer.MIN_VALUE));
    }

    private static void frame() {
        SoundStream x = new SoundStream();
        CHECK.throwsIllegalArgument("frame(0, 9): what comes first", () -> x.frame(0, 9));
        x.ramp(0, 130, 0, 4);
        x.encode(false);
        CHECK.due("frame(0, 0)", x.frame(0, 0), 42);
        CHECK.due("frame(0, 2)", x.frame(0, 2), 0);
        CHECK.due("frame(0, 3)", x.frame(0, 3), 10);
        CHECK.due("frame(0, 4)", x.frame(0, 4), 2);
        CHECK.due("frame(0, 5)", x.frame(0, 5), 8 + 2 + 2 * 14 + 6 + 9);
        CHECK.due("frame(2, 3)", x.frame(2, 3), 9);
        CHECK.due("frame(2, 4)", x.frame(2, 4), 2);
        CHECK.due("frame(2, 5)", x.frame(2, 5), 8 + 2 + 14 + 6 + 4 + 3);
        CHECK.due("frame(0, 8)", x.frame(0, 8), -1);
        CHECK.throwsIndexOutOfBounds("frame(3, 0)", () -> x.frame(3, 0));
        CHECK.throwsIndexOutOfBounds("frame(-1, 0)", () -> x.frame(-1, 0));
        CHECK.throwsIndexOutOfBounds("frame(MAX, 0)", () -> x.frame(Integer.MAX_VALUE, 0));
        CHECK.throwsIllegalArgument("frame(0, -1)", () -> x.frame(0, -1));
        CHECK.throwsIllegalArgument("frame(9, 9)", () -> x.frame(9, 9));
        x.cut(0);
        CHECK.due("a cut stream's frames", x.frame(2, 2), 0);
    }

    private static void unlikeRows() {
        SoundStream x = new SoundStream();
        x.form(2, 8, 16, 1);
        x.ramp(0, 20, 0, 1);
        x.ramp(1, 20, 0, 1);
        int bytes = x.encode(false);
        long before = x.stream(42);
        x.sample(1, 3);
        CHECK.throwsIllegalState("rows that are not alike", () -> x.encode(true));
        CHECK.due("the stream stays", x.told(0), bytes);
        CHECK.due("and its bytes", x.stream(42), before);
        CHECK.due("and its frames", x.told(1), 2);
    }
}
