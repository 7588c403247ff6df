import java.util.Random;

/**
 * Promise 9, and what "ENCODING" under Terms says of the choices: w, the type, q, k and n, C, "the first one with the
 * fewest bits"; against counts by hand, and against a second encoder.
 */
public final class Promise09ChoicesTest {
    private static final Check CHECK = new Check();
    /** Where the subframes of the only frame begin: behind a head of seven bytes. */
    private static final int BODY = 8 * (42 + 7);

    public static void main(String[] args) {
        lowestBitsThatAreZero();
        typesOfFewSamples();
        ordersBelowTheSize();
        rests();
        roomInTheLeastBits();
        partsThatDivideTheSize();
        partsWithMoreThanTheOrder();
        firstOfTheChannelsWays();
        againstPlainEncoder();
        CHECK.end();
    }

    private static SoundStream encoded(int depth, int... samples) {
        Rows rows = new Rows(1, depth, 1).these(0, samples);
        compare("samples by hand", rows, 256, false);
        return rows.encoded(256, false);
    }

    private static void subframe(String what, SoundStream x, int type, int w, int bits) {
        CHECK.due(what + ": type", x.frame(0, 3), type);
        CHECK.due(what + ": w", x.frame(0, 4), w);
        CHECK.due(what + ": bits", x.frame(0, 5), bits);
    }

    private static long bits(SoundStream x, int from, int n) {
        long v = 0;
        for (int i = from; i < from + n; i++) {
            v = 2 * v + (x.stream(i / 8) >> (7 - i % 8) & 1);
        }
        return v;
    }

    /** "w is how many lowest bits all its samples have as 0 (0 if all samples are 0)." */
    private static void lowestBitsThatAreZero() {
        subframe("all 0", encoded(8, 0, 0, 0), 0, 0, 8 + 8);
        subframe("one 0", encoded(10, 0), 0, 0, 8 + 10);
        subframe("all lowest", encoded(8, -128, -128), 0, 7, 8 + 7 + 1);
        subframe("all lowest of 24 bits", encoded(24, -8388608), 0, 23, 8 + 23 + 1);
        subframe("all lowest of 4 bits", encoded(4, -8, -8, -8), 0, 3, 8 + 3 + 1);
        subframe("the greatest", encoded(8, 127, 127), 0, 0, 8 + 8);
        subframe("0 and the lowest", encoded(8, 0, -128), 1, 7, 8 + 7 + 2);
        subframe("-1", encoded(8, -1), 0, 0, 8 + 8);
        subframe("64 and 0", encoded(8, 64, 64, 0), 1, 6, 8 + 6 + 3 * 2);
        subframe("one odd sample among even ones", encoded(4, 4, -8, 1), 1, 0, 8 + 3 * 4);
        for (int w = 1; w <= 7; w++) {
            SoundStream x = encoded(8, 1 << w, 1 << w);
            subframe("twice 2^" + w, x, 0, w, 8 + w + 8 - w);
            CHECK.due("the bits of w, a 1 behind zeros", bits(x, BODY + 7, 1 + w), (1L << w) + 1);
            CHECK.due("what stands there", bits(x, BODY + 8 + w, 8 - w), 1);
        }
    }

    /** "Of the types 0 (if it can), 1, 8 .. 12 the first one with the fewest bits." */
    private static void typesOfFewSamples() {
        // 0 takes as many bits as 1 does, and as type 8 with 6 + 4 + 1: a tie, and 0 comes first
        subframe("one sample", encoded(4, 3), 0, 0, 8 + 4);
        subframe("one 0 of 11 bits", encoded(11, 0), 0, 0, 8 + 11);
        subframe("one 0 of 12 bits", encoded(12, 0), 8, 0, 8 + 6 + 4 + 1);
        subframe("two alike of 18 bits", encoded(18, 3, 3), 0, 0, 8 + 18);
        subframe("two alike of 19 bits", encoded(19, 3, 3), 8, 0, 8 + 6 + 4 + 2 * 4);
        subframe("two that differ", encoded(8, 1, 2), 1, 0, 8 + 16);
        subframe("two small ones of 24 bits", encoded(24, 1, 2), 8, 0, 8 + 6 + 4 + 3 + 4);
        // 6 + 4 + 3 + 7 against 2 x 10 bits: a tie, and 1 comes first
        subframe("a tie of 1 and 8", encoded(10, 1, 8), 1, 0, 8 + 20);
        subframe("type 8 takes less than 2 x 11", encoded(11, 1, 8), 8, 0, 8 + 6 + 4 + 3 + 7);
        // all but the last alike: 0 can't
        subframe("all but one alike", encoded(24, 5, 5, 5, 5, 5, 5, 6), 9, 0, 8 + 24 + 6 + 4 + 5 + 3);
    }

    /** "(with o below the size)": with o samples and one more, each order is at its edge. */
    private static void ordersBelowTheSize() {
        int a = 1000000;
        subframe("two samples", encoded(24, a, a + 1), 9, 0, 8 + 24 + 6 + 4 + 3);
        subframe("three on a line", encoded(24, -a, 1, a + 2), 10, 0, 8 + 48 + 6 + 4 + 1);
        subframe("four of no order", encoded(24, 0, a + 1, 4 * a + 4, 8388607), 1, 0, 8 + 96);
        subframe("four with second differences alike", encoded(24, 3 * a + 1, a / 2, -a, 1 - 3 * a / 2), 11, 0, 8 + 72 + 6 + 4 + 1);
        subframe("five with third differences alike", encoded(24, -a, a, a + 1, -1, -a - 10), 12, 0, 8 + 96 + 6 + 4 + 1);
    }

    /** "Each part with the k, 0 .. 14, and then 15 with the least n that has room for all." */
    private static void rests() {
        // type 10 has rests 0 here: 4 + 5 bits with k 0, and 9 with n 0; then 4 + 6 bits, and 9
        SoundStream five = encoded(24, -99, 1, 101, 201, 301, 401, 501);
        subframe("five rests 0", five, 10, 0, 8 + 48 + 6 + 9);
        CHECK.due("five rests 0: k 0 comes before 15", bits(five, BODY + 8 + 48 + 6, 4), 0);
        SoundStream six = encoded(24, -99, 1, 101, 201, 301, 401, 501, 601);
        subframe("six rests 0", six, 10, 0, 8 + 48 + 6 + 9);
        CHECK.due("six rests 0: k 15 with n 0", bits(six, BODY + 8 + 48 + 6, 9), 15 << 5);
        SoundStream tall = new SoundStream();
        tall.form(1, 24, 16, 1);
        tall.noise(0, 16, 12, 21);
        tall.encode(false);
        subframe("rests beyond k 14", tall, 8, 0, 8 + 6 + 9 + 16 * 21);
        CHECK.due("rests beyond k 14: k 15 with n 21", bits(tall, BODY + 8 + 6, 9), (15 << 5) + 21);
        // v is 2^14 and 2^14 + 1: 15 + 1 bits with k 14, 14 + 2 with k 13; the first one counts
        SoundStream edge = encoded(24, 8192, -8193, 8192, -8193);
        CHECK.due("k 13 comes before 14", bits(edge, BODY + 8, 10), 13);
        SoundStream fourteen = encoded(24, 8192, -8193, 8192, -24577);
        CHECK.due("k 14", bits(fourteen, BODY + 8, 10), 14);
    }

    /** "The least n that has room for all": -2^20 fits 21 bits, 2^20 takes 22. */
    private static void roomInTheLeastBits() {
        int[][] edges = {{-(1 << 20), 21}, {(1 << 20) - 1, 21}, {1 << 20, 22}, {-(1 << 20) - 1, 22}};
        for (int[] e : edges) {
            SoundStream x = new SoundStream();
            x.form(1, 24, 256, 1);
            x.noise(0, 32, 12, 21);
            x.sample(0, e[0]);
            x.encode(false);
            subframe("room for " + e[0], x, 8, 0, 8 + 6 + 9 + 33 * e[1]);
            CHECK.due("n of " + e[0], bits(x, BODY + 8 + 6 + 4, 5), e[1]);
        }
    }

    /** Pieces of samples that are small and great by turns. */
    private static Rows byTurns(int piece, int samples) {
        Rows rows = new Rows(1, 24, 1);
        for (int i = 0; i < samples; i += piece) {
            int n = Math.min(piece, samples - i);
            rows.noise(0, n, i, i / piece % 2 == 0 ? 2 : 16);
        }
        return rows;
    }

    /** "Of q = 0 .. 5, if 2^q divides the size." */
    private static void partsThatDivideTheSize() {
        int[][] sizes = {
            {32, 16, 1}, {33, 16, 0}, {34, 17, 1}, {64, 16, 2}, {66, 33, 1}, {68, 17, 2}, {128, 16, 3}, {256, 16, 4}, {36, 9, 2}
        };
        for (int[] e : sizes) {
            SoundStream x = byTurns(e[1], e[0]).encoded(256, false);
            CHECK.due("type of " + e[0], x.frame(0, 3), 8);
            CHECK.due("q of " + e[0] + " in pieces of " + e[1], bits(x, BODY + 8 + 2, 4), e[2]);
        }
        // a head of eight bytes; 2^6 parts would suit better, but q ends with 5
        SoundStream five = byTurns(32, 1024).encoded(1024, false);
        CHECK.due("q 5", bits(five, BODY + 16 + 2, 4), 5);
        SoundStream six = byTurns(16, 1024).encoded(1024, false);
        CHECK.due("no q 6", bits(six, BODY + 16 + 2, 4) <= 5 ? 1 : 0, 1);
        compare("pieces of 16", byTurns(16, 1024), 1024, false);
    }

    /** "And each part has more than o samples": tried where rests are great and small by turns in parts just so long. */
    private static void partsWithMoreThanTheOrder() {
        Random random = new Random(5);
        for (int order = 0; order <= 4; order++) {
            for (int each = Math.max(1, order - 1); each <= order + 2; each++) {
                for (int parts = 2; parts <= 32; parts *= 2) {
                    int[] rests = new int[each * parts];
                    for (int i = order; i < rests.length; i++) {
                        rests[i] = i / each % 2 == 0 ? 0 : random.nextInt(31) - 15;
                    }
                    for (int sum = 0; sum < order; sum++) {
                        for (int i = 1; i < rests.length; i++) {
                            rests[i] += rests[i - 1];
                        }
                    }
                    Rows rows = new Rows(1, 24, 1).these(0, rests);
                    compare("order " + order + ", " + parts + " parts of " + each, rows, Math.max(16, each * parts), false);
                }
            }
        }
    }

    /** "C is 1, 8, 9 or 10: the first one in this order with the fewest bits of both subframes." */
    private static void firstOfTheChannelsWays() {
        Random random = new Random(8);
        int[] smooth = new int[64];
        int[] rough = new int[64];
        int[] zero = new int[64];
        for (int i = 0; i < 64; i++) {
            smooth[i] = 100 * i;
            rough[i] = random.nextInt(512) - 256;
        }
        CHECK.due("all 0: all ways take as much, but differences a bit more", way(zero, zero), 1);
        CHECK.due("the same: 8 comes before 9 and 10", way(rough, rough), 8);
        CHECK.due("nothing alike", way(rough, smooth), 1);
        CHECK.due("nothing alike, the other way round", way(smooth, rough), 1);
        CHECK.due("rough beside smooth", way(sum(smooth, rough, 1), smooth), 9);
        CHECK.due("smooth beside rough", way(smooth, sum(smooth, rough, 1)), 8);
        CHECK.due("rough both ways", way(sum(smooth, rough, 1), sum(smooth, rough, -1)), 10);
        edgesOfTheDifference();
    }

    private static int[] sum(int[] one, int[] two, int times) {
        int[] both = new int[one.length];
        for (int i = 0; i < both.length; i++) {
            both[i] = one[i] + times * two[i];
        }
        return both;
    }

    private static long way(int[] one, int[] two) {
        Rows rows = new Rows(2, 16, 1).these(0, one).these(1, two);
        compare("ways of two channels", rows, 64, true);
        return rows.encoded(64, true).frame(0, 2);
    }

    /** "A difference has one bit more": the greatest one and the lowest one of the deepest samples. */
    private static void edgesOfTheDifference() {
        for (int depth : new int[] {4, 8, 24}) {
            Rows rows = new Rows(2, depth, 1);
            int greatest = (1 << (depth - 1)) - 1;
            for (int i = 0; i < 40; i++) {
                rows.ramp(0, 1, i % 3 == 0 ? greatest : -greatest - 1, 0);
                rows.ramp(1, 1, i % 3 == 0 ? -greatest - 1 : greatest, 0);
            }
            compare("the greatest differences of " + depth + " bits", rows, 16, false);
        }
    }

    private static void againstPlainEncoder() {
        Random random = new Random(12);
        for (int round = 0; round < 400; round++) {
            int channels = 1 + random.nextInt(2);
            int depth = random.nextInt(4) == 0 ? 24 : 4 + random.nextInt(21);
            int block = random.nextInt(3) == 0 ? 16 << random.nextInt(7) : 16 + random.nextInt(80);
            Rows rows = new Rows(channels, depth, 1 + random.nextInt(655350));
            if (random.nextInt(5) == 0) {
                fillByPieces(rows, random, random.nextInt(1201));
            } else {
                fillBySamples(rows, random, random.nextInt(200));
            }
            compare("rows of many kinds", rows, block, random.nextBoolean());
        }
    }

    /** Rows of pieces of many kinds, the second one often near the first one. */
    private static void fillBySamples(Rows rows, Random random, int length) {
        boolean near = random.nextBoolean();
        int depth = rows.depth;
        int kind = random.nextInt(8);
        int scale = random.nextInt(3) == 0 ? random.nextInt(depth) : 0;
        int[] one = new int[length];
        int[] two = new int[length];
        int made = 0;
        while (made < length) {
            int n = Math.min(length - made, 1 + random.nextInt(60));
            if (kind == 7 || random.nextInt(6) == 0) {
                kind = random.nextInt(8);
            }
            int v = random.nextInt();
            int step = random.nextInt(1 << 1 + random.nextInt(depth));
            int bits = 1 + random.nextInt(Math.min(depth, 12));
            for (int i = made; i < made + n; i++) {
                double wave = Math.sin(i * (0.01 + 0.02 * kind)) * (1 << (depth - 2));
                int each = kind == 0 ? 0 : kind == 1 ? v : kind == 2 ? v + step * (i - made) : kind == 3 ? (int) wave
                    : kind == 4 ? random.nextInt(1 << bits) : kind == 5 ? (int) wave + random.nextInt(1 << bits)
                    : random.nextInt();
                one[i] = each >> scale << scale;
                two[i] = near ? one[i] + (random.nextInt(3) << scale) : random.nextInt(1 << bits) << scale;
            }
            made += n;
        }
        rows.these(0, one);
        if (rows.channels == 2) {
            rows.these(1, two);
        }
    }

    /** Longer rows, in pieces of a call each; those of the second one are like those of the first one. */
    private static void fillByPieces(Rows rows, Random random, int length) {
        int scale = random.nextInt(3) == 0 ? random.nextInt(rows.depth) : 0;
        boolean rough = scale == 0 && random.nextInt(4) > 0;
        for (int made = 0; made < length;) {
            int n = Math.min(length - made, 16 + random.nextInt(60));
            int v = random.nextInt();
            int step = random.nextInt(1 << 1 + random.nextInt(rows.depth)) << scale;
            int bits = 1 + random.nextInt(rows.depth);
            boolean noise = rough && random.nextInt(3) > 0;
            for (int c = 0; c < rows.channels; c++) {
                if (noise) {
                    rows.noise(c, n, v, Math.max(1, bits - c * random.nextInt(2)));
                } else {
                    rows.ramp(c, n, (v >> scale) + c * random.nextInt(2) << scale, step);
                }
            }
            made += n;
        }
    }

    /** Every byte, every sample that is read back, and every frame as it is told. */
    private static void compare(String what, Rows rows, int block, boolean v) {
        int length = rows.length();
        byte[] due = rows.stream(block, v);
        String form = what + ", " + rows.channels + " x " + length + " of " + rows.depth + " bits in blocks of " + block;
        SoundStream x = rows.make(block);
        CHECK.due("encode: " + form, x.encode(v), due.length);
        CHECK.due("told(0): " + form, x.told(0), due.length);
        CHECK.due("decode: " + form, x.decode(), length);
        CHECK.due("fault: " + form, x.fault(), 0);
        CHECK.due("told(1): " + form, x.told(1), (length + block - 1) / block);
        CHECK.due("told(7): " + form, x.told(7), (length + block - 1) / block);
        Renewed renewed = new Renewed(() -> {
            SoundStream y = rows.encoded(block, v);
            y.decode();
            return y;
        }, rows.calls() + 2);
        CHECK.due("the first other byte: " + form, firstOther(renewed, due), -1);
        for (int c = 0; c < rows.channels; c++) {
            for (int i = 0; i < length; i++) {
                int heard = renewed.once().heard(c, i);
                if (heard != rows.samples[c][i]) {
                    CHECK.due("heard(" + c + ", " + i + "): " + form, heard, rows.samples[c][i]);
                }
            }
        }
        framesAsTold(renewed, due, rows.channels, block, length);
    }

    private static int firstOther(Renewed x, byte[] due) {
        for (int i = 0; i < due.length; i += 8) {
            long eight = x.once().stream(i);
            for (int j = i; j < i + 8; j++) {
                if ((byte) (eight >> 8 * (j - i)) != (j < due.length ? due[j] : 0)) {
                    return j;
                }
            }
        }
        return x.once().stream(due.length) == 0 ? -1 : due.length;
    }

    /** What frame() tells must be what stands in the stream. */
    private static void framesAsTold(Renewed x, byte[] all, int channels, int block, int length) {
        int at = 42;
        for (int k = 0; k * block < length; k++) {
            int[] told = new int[9];
            for (int what = 0; what < 9; what++) {
                told[what] = x.once().frame(k, what);
            }
            CHECK.due("frame(k, 0)", told[0], at);
            int c = all[at + 3] >> 4 & 15;
            CHECK.due("frame(k, 2)", told[2], c);
            int size = Math.min(block, length - k * block);
            int head = 4 + ((all[at + 4] & 128) == 0 ? 1 : 2) + (size <= 256 ? 1 : 2) + 1;
            CHECK.due("frame(k, 3)", told[3], all[at + head] >> 1);
            CHECK.due("w as the bit", told[4] > 0 ? 1 : 0, all[at + head] & 1);
            long bits = told[5] + (channels == 2 ? told[8] : 0);
            CHECK.due("frame(k, 1)", told[1], head + (bits + 7) / 8 + 2);
            if (channels == 2) {
                int second = 8 * (at + head) + told[5];
                CHECK.due("frame(k, 6)", told[6], bits(all, second, 7));
                CHECK.due("second w as the bit", told[7] > 0 ? 1 : 0, bits(all, second + 7, 1));
            }
            at += told[1];
        }
        CHECK.due("the frames fill the stream", at, all.length);
    }

    private static long bits(byte[] all, int from, int n) {
        long v = 0;
        for (int i = from; i < from + n; i++) {
            v = 2 * v + (all[i / 8] >> (7 - i % 8) & 1);
        }
        return v;
    }
}
