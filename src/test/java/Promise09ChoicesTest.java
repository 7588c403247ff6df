import java.util.Random;

/**
 * Promise 9, and what "ENCODING" under Terms says of the choices: w, the type, q, k and n, C, "the first one with the
 * fewest bits"; against counts by hand, and against a second encoder.
 */
public final class Promise09ChoicesTest {
    private static final Check CHECK = new Check();
    /** Where the subframes of the only frame begin: behind a head of seven bytes. */
    private static final int BODY = 8 * (42 + 7);

    public static void main(String[] args) {
        lowestBitsThatAreZero();
        typesOfFewSamples();
        ordersBelowTheSize();
        rests();
        roomInTheLeastBits();
        partsThatDivideTheSize();
        partsWithMoreThanTheOrder();
        firstOfTheChannelsWays();
        againstPlainEncoder();
        CHECK.end();
    }

    private static SoundStream encoded(int depth, int... samples) {
        SoundStream x = new SoundStream();
        x.form(1, depth, 256, 1);
        for (int v : samples) {
            x.sample(0, v);
        }
        x.encode(false);
        compare("samples by hand", x, 1, depth, 256, samples.length, false);
        return x;
    }

    private static void subframe(String what, SoundStream x, int type, int w, int bits) {
        CHECK.due(what + ": type", x.frame(0, 3), type);
        CHECK.due(what + ": w", x.frame(0, 4), w);
        CHECK.due(what + ": bits", x.frame(0, 5), bits);
    }

    private static long bits(SoundStream x, int from, int n) {
        long v = 0;
        for (int i = from; i < from + n; i++) {
            v = 2 * v + (x.stream(i / 8) >> (7 - i % 8) & 1);
        }
        return v;
    }

    /** "w is how many lowest bits all its samples have as 0 (0 if all samples are 0)." */
    private static void lowestBitsThatAreZero() {
        subframe("all 0", encoded(8, 0, 0, 0), 0, 0, 8 + 8);
        subframe("one 0", encoded(10, 0), 0, 0, 8 + 10);
        subframe("all lowest", encoded(8, -128, -128), 0, 7, 8 + 7 + 1);
        subframe("all lowest of 24 bits", encoded(24, -8388608), 0, 23, 8 + 23 + 1);
        subframe("all lowest of 4 bits", encoded(4, -8, -8, -8), 0, 3, 8 + 3 + 1);
        subframe("the greatest", encoded(8, 127, 127), 0, 0, 8 + 8);
        subframe("0 and the lowest", encoded(8, 0, -128), 1, 7, 8 + 7 + 2);
        subframe("-1", encoded(8, -1), 0, 0, 8 + 8);
        subframe("64 and 0", encoded(8, 64, 64, 0), 1, 6, 8 + 6 + 3 * 2);
        subframe("one odd sample among even ones", encoded(4, 4, -8, 1), 1, 0, 8 + 3 * 4);
        for (int w = 1; w <= 7; w++) {
            SoundStream x = encoded(8, 1 << w, 1 << w);
            subframe("twice 2^" + w, x, 0, w, 8 + w + 8 - w);
            CHECK.due("the bits of w, a 1 behind zeros", bits(x, BODY + 7, 1 + w), (1L << w) + 1);
            CHECK.due("what stands there", bits(x, BODY + 8 + w, 8 - w), 1);
        }
    }

    /** "Of the types 0 (if it can), 1, 8 .. 12 the first one with the fewest bits." */
    private static void typesOfFewSamples() {
        // 0 takes as many bits as 1 does, and as type 8 with 6 + 4 + 1: a tie, and 0 comes first
        subframe("one sample", encoded(4, 3), 0, 0, 8 + 4);
        subframe("one 0 of 11 bits", encoded(11, 0), 0, 0, 8 + 11);
        subframe("one 0 of 12 bits", encoded(12, 0), 8, 0, 8 + 6 + 4 + 1);
        subframe("two alike of 18 bits", encoded(18, 3, 3), 0, 0, 8 + 18);
        subframe("two alike of 19 bits", encoded(19, 3, 3), 8, 0, 8 + 6 + 4 + 2 * 4);
        subframe("two that differ", encoded(8, 1, 2), 1, 0, 8 + 16);
        subframe("two small ones of 24 bits", encoded(24, 1, 2), 8, 0, 8 + 6 + 4 + 3 + 4);
        // 6 + 4 + 3 + 7 against 2 x 10 bits: a tie, and 1 comes first
        subframe("a tie of 1 and 8", encoded(10, 1, 8), 1, 0, 8 + 20);
        subframe("type 8 takes less than 2 x 11", encoded(11, 1, 8), 8, 0, 8 + 6 + 4 + 3 + 7);
        // all but the last alike: 0 can't
        subframe("all but one alike", encoded(24, 5, 5, 5, 5, 5, 5, 6), 9, 0, 8 + 24 + 6 + 4 + 5 + 3);
    }

    /** "(with o below the size)": with o samples and one more, each order is at its edge. */
    private static void ordersBelowTheSize() {
        int a = 1000000;
        subframe("two samples", encoded(24, a, a + 1), 9, 0, 8 + 24 + 6 + 4 + 3);
        subframe("three on a line", encoded(24, -a, 1, a + 2), 10, 0, 8 + 48 + 6 + 4 + 1);
        subframe("four of no order", encoded(24, 0, a + 1, 4 * a + 4, 8388607), 1, 0, 8 + 96);
        subframe("four with second differences alike", encoded(24, 3 * a + 1, a / 2, -a, 1 - 3 * a / 2), 11, 0, 8 + 72 + 6 + 4 + 1);
        subframe("five with third differences alike", encoded(24, -a, a, a + 1, -1, -a - 10), 12, 0, 8 + 96 + 6 + 4 + 1);
    }

    /** "Each part with the k, 0 .. 14, and then 15 with the least n that has room for all." */
    private static void rests() {
        // type 10 has rests 0 here: 4 + 5 bits with k 0, and 9 with n 0; then 4 + 6 bits, and 9
        SoundStream five = encoded(24, -99, 1, 101, 201, 301, 401, 501);
        subframe("five rests 0", five, 10, 0, 8 + 48 + 6 + 9);
        CHECK.due("five rests 0: k 0 comes before 15", bits(five, BODY + 8 + 48 + 6, 4), 0);
        SoundStream six = encoded(24, -99, 1, 101, 201, 301, 401, 501, 601);
        subframe("six rests 0", six, 10, 0, 8 + 48 + 6 + 9);
        CHECK.due("six rests 0: k 15 with n 0", bits(six, BODY + 8 + 48 + 6, 9), 15 << 5);
        SoundStream tall = new SoundStream();
        tall.form(1, 24, 16, 1);
        tall.noise(0, 16, 12, 21);
        tall.encode(false);
        subframe("rests beyond k 14", tall, 8, 0, 8 + 6 + 9 + 16 * 21);
        CHECK.due("rests beyond k 14: k 15 with n 21", bits(tall, BODY + 8 + 6, 9), (15 << 5) + 21);
        // v is 2^14 and 2^14 + 1: 15 + 1 bits with k 14, 14 + 2 with k 13; the first one counts
        SoundStream edge = encoded(24, 8192, -8193, 8192, -8193);
        CHECK.due("k 13 comes before 14", bits(edge, BODY + 8, 10), 13);
        SoundStream fourteen = encoded(24, 8192, -8193, 8192, -24577);
        CHECK.due("k 14", bits(fourteen, BODY + 8, 10), 14);
    }

    /** "The least n that has room for all": -2^20 fits 21 bits, 2^20 takes 22. */
    private static void roomInTheLeastBits() {
        int[][] edges = {{-(1 << 20), 21}, {(1 << 20) - 1, 21}, {1 << 20, 22}, {-(1 << 20) - 1, 22}};
        for (int[] e : edges) {
            SoundStream x = new SoundStream();
            x.form(1, 24, 256, 1);
            x.noise(0, 32, 12, 21);
            x.sample(0, e[0]);
            x.encode(false);
            subframe("room for " + e[0], x, 8, 0, 8 + 6 + 9 + 33 * e[1]);
            CHECK.due("n of " + e[0], bits(x, BODY + 8 + 6 + 4, 5), e[1]);
        }
    }

    /** Pieces of samples that are small and great by turns. */
    private static SoundStream byTurns(int block, int piece, int samples) {
        SoundStream x = new SoundStream();
        x.form(1, 24, block, 1);
        for (int i = 0; i < samples; i += piece) {
            int n = Math.min(piece, samples - i);
            x.noise(0, n, i, i / piece % 2 == 0 ? 2 : 16);
        }
        x.encode(false);
        return x;
    }

    /** "Of q = 0 .. 5, if 2^q divides the size." */
    private static void partsThatDivideTheSize() {
        int[][] sizes = {
            {32, 16, 1}, {33, 16, 0}, {34, 17, 1}, {64, 16, 2}, {66, 33, 1}, {68, 17, 2}, {128, 16, 3}, {256, 16, 4}, {36, 9, 2}
        };
        for (int[] e : sizes) {
            SoundStream x = byTurns(256, e[1], e[0]);
            CHECK.due("type of " + e[0], x.frame(0, 3), 8);
            CHECK.due("q of " + e[0] + " in pieces of " + e[1], bits(x, BODY + 8 + 2, 4), e[2]);
        }
        // a head of eight bytes; 2^6 parts would suit better, but q ends with 5
        SoundStream five = byTurns(1024, 32, 1024);
        CHECK.due("q 5", bits(five, BODY + 16 + 2, 4), 5);
        SoundStream six = byTurns(1024, 16, 1024);
        CHECK.due("no q 6", bits(six, BODY + 16 + 2, 4) <= 5 ? 1 : 0, 1);
        compare("pieces of 16", six, 1, 24, 1024, 1024, false);
    }

    /** "And each part has more than o samples": tried where rests are great and small by turns in parts just so long. */
    private static void partsWithMoreThanTheOrder() {
        Random random = new Random(5);
        for (int order = 0; order <= 4; order++) {
            for (int each = Math.max(1, order - 1); each <= order + 2; each++) {
                for (int parts = 2; parts <= 32; parts *= 2) {
                    SoundStream x = new SoundStream();
                    x.form(1, 24, Math.max(16, each * parts), 1);
                    int[] rests = new int[each * parts];
                    for (int i = order; i < rests.length; i++) {
                        rests[i] = i / each % 2 == 0 ? 0 : random.nextInt(31) - 15;
                    }
                    for (int sum = 0; sum < order; sum++) {
                        for (int i = 1; i < rests.length; i++) {
                            rests[i] += rests[i - 1];
                        }
                    }
                    for (int v : rests) {
                        x.sample(0, v);
                    }
                    compare("order " + order + ", " + parts + " parts of " + each, x, 1, 24, Math.max(16, each * parts), rests.length, false);
                }
            }
        }
    }

    /** "C is 1, 8, 9 or 10: the first one in this order with the fewest bits of both subframes." */
    private static void firstOfTheChannelsWays() {
        Random random = new Random(8);
        int[] smooth = new int[64];
        int[] rough = new int[64];
        int[] zero = new int[64];
        for (int i = 0; i < 64; i++) {
            smooth[i] = 100 * i;
            rough[i] = random.nextInt(512) - 256;
        }
        CHECK.due("all 0: all ways take as much, but differences a bit more", way(zero, zero), 1);
        CHECK.due("the same: 8 comes before 9 and 10", way(rough, rough), 8);
        CHECK.due("nothing alike", way(rough, smooth), 1);
        CHECK.due("nothing alike, the other way round", way(smooth, rough), 1);
        CHECK.due("rough beside smooth", way(sum(smooth, rough, 1), smooth), 9);
        CHECK.due("smooth beside rough", way(smooth, sum(smooth, rough, 1)), 8);
        CHECK.due("rough both ways", way(sum(smooth, rough, 1), sum(smooth, rough, -1)), 10);
        edgesOfTheDifference();
    }

    private static int[] sum(int[] one, int[] two, int times) {
        int[] both = new int[one.length];
        for (int i = 0; i < both.length; i++) {
            both[i] = one[i] + times * two[i];
        }
        return both;
    }

    private static long way(int[] one, int[] two) {
        SoundStream x = new SoundStream();
        x.form(2, 16, 64, 1);
        for (int i = 0; i < one.length; i++) {
            x.sample(0, one[i]);
            x.sample(1, two[i]);
        }
        compare("ways of two channels", x, 2, 16, 64, one.length, true);
        return x.frame(0, 2);
    }

    /** "A difference has one bit more": the greatest one and the lowest one of the deepest samples. */
    private static void edgesOfTheDifference() {
        for (int depth : new int[] {4, 8, 24}) {
            SoundStream x = new SoundStream();
            x.form(2, depth, 16, 1);
            int greatest = (1 << (depth - 1)) - 1;
            for (int i = 0; i < 40; i++) {
                x.sample(0, i % 3 == 0 ? greatest : -greatest - 1);
                x.sample(1, i % 3 == 0 ? -greatest - 1 : greatest);
            }
            compare("the greatest differences of " + depth + " bits", x, 2, depth, 16, 40, false);
        }
    }

    private static void againstPlainEncoder() {
        Random random = new Random(12);
        for (int round = 0; round < 400; round++) {
            SoundStream x = new SoundStream();
            int channels = 1 + random.nextInt(2);
            int depth = random.nextInt(4) == 0 ? 24 : 4 + random.nextInt(21);
            int block = random.nextInt(3) == 0 ? 16 << random.nextInt(7) : 16 + random.nextInt(80);
            int rate = 1 + random.nextInt(655350);
            x.form(channels, depth, block, rate);
            int length = random.nextInt(5) == 0 ? random.nextInt(1201) : random.nextInt(200);
            fill(x, random, channels, depth, length);
            compare("rows of many kinds", x, channels, depth, block, length, random.nextBoolean());
        }
    }

    /** Rows of pieces of many kinds, the second one often near the first one. */
    private static void fill(SoundStream x, Random random, int channels, int depth, int length) {
        boolean near = random.nextBoolean();
        int kind = random.nextInt(8);
        int scale = random.nextInt(3) == 0 ? random.nextInt(depth) : 0;
        int made = 0;
        while (made < length) {
            int n = Math.min(length - made, 1 + random.nextInt(60));
            if (kind == 7 || random.nextInt(6) == 0) {
                kind = random.nextInt(8);
            }
            int v = random.nextInt();
            int step = random.nextInt(1 << 1 + random.nextInt(depth));
            int bits = 1 + random.nextInt(Math.min(depth, 12));
            for (int i = 0; i < n; i++) {
                double wave = Math.sin((made + i) * (0.01 + 0.02 * kind)) * (1 << (depth - 2));
                int one = kind == 0 ? 0 : kind == 1 ? v : kind == 2 ? v + step * i : kind == 3 ? (int) wave
                    : kind == 4 ? random.nextInt(1 << bits) : kind == 5 ? (int) wave + random.nextInt(1 << bits)
                    : random.nextInt();
                one = one >> scale << scale;
                x.sample(0, one);
                if (channels == 2) {
                    int two = near ? x.at(0, made + i) + (random.nextInt(3) << scale) : random.nextInt(1 << bits) << scale;
                    x.sample(1, two);
                }
            }
            made += n;
        }
    }

    /** More calls than the 512 that the document speaks of, to see every sample and byte; this program has no such end. */
    private static void compare(String what, SoundStream x, int channels, int depth, int block, int length, boolean v) {
        int[][] rows = new int[channels][length];
        long[][] wide = new long[channels][length];
        for (int c = 0; c < channels; c++) {
            for (int i = 0; i < length; i++) {
                rows[c][i] = x.at(c, i);
                wide[c][i] = rows[c][i];
            }
        }
        byte[] sum = PlainDecoder.sum(wide, channels, length, depth);
        int bytes = x.encode(v);
        x.decode();
        byte[] due = new PlainEncoder(rows, depth, block, x.told(5), sum).encode(v);
        String form = what + ", " + channels + " x " + length + " of " + depth + " bits in blocks of " + block;
        CHECK.due("encode: " + form, bytes, due.length);
        CHECK.due("told(0): " + form, x.told(0), due.length);
        CHECK.due("the first other byte: " + form, firstOther(x, due), -1);
        CHECK.due("decode: " + form, x.told(6), length);
        CHECK.due("fault: " + form, x.fault(), 0);
        CHECK.due("told(1): " + form, x.told(1), (length + block - 1) / block);
        CHECK.due("told(7): " + form, x.told(7), (length + block - 1) / block);
        for (int c = 0; c < channels; c++) {
            for (int i = 0; i < length; i++) {
                if (x.heard(c, i) != rows[c][i]) {
                    CHECK.due("heard(" + c + ", " + i + "): " + form, x.heard(c, i), rows[c][i]);
                }
            }
        }
        framesAsTold(x, due, channels, block, length);
    }

    private static int firstOther(SoundStream x, byte[] due) {
        for (int i = 0; i < due.length; i++) {
            if ((byte) x.stream(i) != due[i]) {
                return i;
            }
        }
        return x.stream(due.length) == 0 ? -1 : due.length;
    }

    /** What frame() tells must be what stands in the stream. */
    private static void framesAsTold(SoundStream x, byte[] all, int channels, int block, int length) {
        int at = 42;
        for (int k = 0; k < x.told(1); k++) {
            CHECK.due("frame(k, 0)", x.frame(k, 0), at);
            int c = all[at + 3] >> 4 & 15;
            CHECK.due("frame(k, 2)", x.frame(k, 2), c);
            int size = Math.min(block, length - k * block);
            int head = 4 + ((all[at + 4] & 128) == 0 ? 1 : 2) + (size <= 256 ? 1 : 2) + 1;
            CHECK.due("frame(k, 3)", x.frame(k, 3), all[at + head] >> 1);
            CHECK.due("w as the bit", x.frame(k, 4) > 0 ? 1 : 0, all[at + head] & 1);
            long bits = x.frame(k, 5) + (channels == 2 ? x.frame(k, 8) : 0);
            CHECK.due("frame(k, 1)", x.frame(k, 1), head + (bits + 7) / 8 + 2);
            if (channels == 2) {
                int second = 8 * (at + head) + x.frame(k, 5);
                CHECK.due("frame(k, 6)", x.frame(k, 6), bits(x, second, 7));
                CHECK.due("second w as the bit", x.frame(k, 7) > 0 ? 1 : 0, bits(x, second + 7, 1));
            }
            at += x.frame(k, 1);
        }
        CHECK.due("the frames fill the stream", at, all.length);
    }
}
