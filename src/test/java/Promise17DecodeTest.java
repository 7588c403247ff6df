import java.util.Arrays;

/**
 * Promise 17: "Decodes the stream. Answers how many samples each channel has; NONE when it has a fault: nothing is decoded
 * then." Here: streams that are right, each thing at its edge, read back to their samples.
 */
public final class Promise17DecodeTest {
    private static final Check CHECK = new Check();
    private static final Decoding DECODING = new Decoding(CHECK);

    public static void main(String[] args) {
        noFrames();
        otherBlocks();
        sizesOfFramesAreNotLookedAt();
        sizes();
        ratesAndDepths();
        numbers();
        waysOfTwoChannels();
        constants();
        plainSamples();
        lowestBitsThatAreZero();
        predictorsWithoutFactors();
        predictorsWithFactors();
        roundedDown();
        asManyFirstSamplesAsThereAre();
        ks();
        escapes();
        partsOfRests();
        fullRows();
        noneIsDecodedThen();
        oneFrameBehindAnother();
        oneStreamBehindAnother();
        nothingElseChanges();
        CHECK.end();
    }

    private static void heard(String what, SoundStream x, int channel, int... due) {
        for (int i = 0; i < due.length; i++) {
            CHECK.due(what + ": heard(" + channel + ", " + i + ")", x.heard(channel, i), due[i]);
        }
        CHECK.throwsIndexOutOfBounds(what + ": no more", () -> x.heard(channel, due.length));
    }

    private static Maker sized(int size, int depth) {
        Maker m = new Maker();
        m.greatest = Math.max(16, size);
        m.b = size <= 256 ? 6 : 7;
        m.size = size;
        m.depth = depth;
        return m;
    }

    private static void noFrames() {
        DECODING.right("information alone", new Maker().start(), 0);
        Maker known = new Maker();
        known.sum = PlainDecoder.sum(new long[1][0], 1, 0, 8);
        SoundStream x = known.start().fed();
        DECODING.right("the sum of none", x, 0);
        CHECK.due("is known", x.told(8), 1);
        CHECK.throwsIndexOutOfBounds("nothing is heard", () -> x.heard(0, 0));
        DECODING.right("empty rows", Recipes.emptyRowsEncoded(), 0);
    }

    /** "Others have the types 1 .. 126": of any length, 0 as well, and of any bytes. */
    private static void otherBlocks() {
        for (int type = 1; type <= 126; type++) {
            Maker m = new Maker();
            m.onlyBlock = false;
            m.start().block(0, type, 3).put(24, -1).block(0, 127 - type, 0).block(1, type, 1).put(8, 9);
            SoundStream x = m.frameOf(7).fed();
            DECODING.right("blocks of type " + type, x, 16);
            CHECK.due("behind them", x.heard(0, 15), 7);
        }
        Maker many = new Maker();
        many.onlyBlock = false;
        many.start();
        for (int i = 0; i < 500; i++) {
            many.block(i == 499 ? 1 : 0, 1, i % 3).put(8 * (i % 3), -1);
        }
        DECODING.right("500 blocks", many.frameOf(7), 16);
        Maker wide = new Maker();
        wide.onlyBlock = false;
        wide.start().block(1, 1, 3000);
        for (int i = 0; i < 3000; i++) {
            wide.put(8, 255);
        }
        DECODING.right("a block of 3000 bytes", wide.frameOf(7), 16);
    }

    /** "24 the least, 24 the greatest number of bytes of a frame (neither is looked at in decoding)". */
    private static void sizesOfFramesAreNotLookedAt() {
        int[][] sizes = {{0, 0}, {1, 1}, {16777215, 0}, {16777215, 16777215}, {12, 10}};
        for (int[] e : sizes) {
            Maker m = new Maker();
            m.leastFrame = e[0];
            m.greatestFrame = e[1];
            DECODING.right("sizes of frames " + Arrays.toString(e), m.start().frameOf(1), 16);
        }
    }

    /** "8 bits (B = 6) or 16 (B = 7) of its SIZE less 1", and the sizes for other B. */
    private static void sizes() {
        int[][] sizes = {
            {1, 192}, {2, 576}, {3, 1152}, {6, 1}, {6, 2}, {6, 255}, {6, 256}, {7, 1}, {7, 256}, {7, 257}, {7, 1199}, {7, 1200},
            {8, 256}, {9, 512}, {10, 1024}
        };
        for (int[] e : sizes) {
            for (int greatest : new int[] {Math.max(16, e[1]), 65535}) {
                Maker m = new Maker();
                m.greatest = greatest;
                m.b = e[0];
                m.size = e[1];
                SoundStream x = m.start().frameOf(-5).fed();
                DECODING.right("B " + e[0] + " with " + e[1], x, e[1]);
                CHECK.due("its last sample", x.heard(0, e[1] - 1), -5);
                CHECK.throwsIndexOutOfBounds("and no more", () -> x.heard(0, e[1]));
            }
        }
    }

    private static void ratesAndDepths() {
        for (int r = 0; r <= 14; r++) {
            Maker m = new Maker();
            m.r = r;
            SoundStream x = m.start().frameOf(5).fed();
            DECODING.right("R " + r, x, 16);
            CHECK.due("the rate is that of the information", x.told(5), 8000);
        }
        int[][] depths = {{1, 8}, {2, 12}, {4, 16}, {5, 20}, {6, 24}};
        for (int[] e : depths) {
            Maker m = new Maker();
            m.s = e[0];
            m.depth = e[1];
            DECODING.right("S " + e[0], m.start().frameOf(5), 16);
        }
        for (int depth = 4; depth <= 24; depth++) {
            Maker m = new Maker();
            m.depth = depth;
            SoundStream x = m.start().frameOf(-1 << (depth - 1)).fed();
            DECODING.right("S 0 of " + depth + " bits", x, 16);
            CHECK.due("the lowest sample", x.heard(0, 15), -1 << (depth - 1));
        }
    }

    private static void numbers() {
        Maker m = new Maker();
        m.way = 1;
        m.start();
        for (int k = 0; k < 75; k++) {
            int first = 16 * k;
            m.number = first < 128 ? new int[] {first} : new int[] {192 + first / 64, 128 + first % 64};
            m.frameOf(k);
        }
        SoundStream x = m.fed();
        DECODING.right("75 frames by samples", x, 1200);
        CHECK.due("their number", x.told(7), 75);
        CHECK.due("the last of them", x.heard(0, 1199), 74);
        Maker byFrame = new Maker();
        byFrame.start();
        for (int k = 0; k < 75; k++) {
            byFrame.number = new int[] {k};
            byFrame.size = k == 74 ? 3 : 16;
            byFrame.frameOf(k);
        }
        DECODING.right("75 frames by number", byFrame, 1187);
        Maker mixed = new Maker();
        mixed.way = 1;
        mixed.greatest = 300;
        mixed.start();
        int at = 0;
        for (int size : new int[] {111, 16, 300, 16, 17, 299, 2}) {
            mixed.b = 7;
            mixed.size = size;
            mixed.number = at < 128 ? new int[] {at} : new int[] {192 + at / 64, 128 + at % 64};
            mixed.frameOf(size % 100);
            at += size;
        }
        SoundStream y = mixed.fed();
        DECODING.right("frames of many sizes, 127 among their first samples", y, 761);
        CHECK.due("the last but one's last", y.heard(0, 758), 99);
        CHECK.due("the last one's first", y.heard(0, 759), 2);
    }

    private static void waysOfTwoChannels() {
        // C, the values in both subframes, and the samples of both channels
        int[][] rows = {
            {1, -128, 127, -128, 127}, {8, -128, -255, -128, 127}, {8, 127, 255, 127, -128}, {9, 255, -128, 127, -128},
            {9, -255, 127, -128, 127}, {10, -1, 255, 127, -128}, {10, -1, -255, -128, 127}, {10, 5, 3, 7, 4},
            {10, 5, -3, 4, 7}, {10, -5, 4, -3, -7}, {10, -128, 0, -128, -128}, {10, 127, 0, 127, 127}, {10, -1, 1, 0, -1},
            {10, -1, -1, -1, 0}, {10, 0, 1, 1, 0}, {10, 0, -1, 0, 1}
        };
        for (int[] e : rows) {
            Maker m = new Maker();
            m.channels = 2;
            m.c = e[0];
            m.start().head();
            m.constant(e[0] == 9 ? 9 : 8, e[1]).constant(e[0] == 8 || e[0] == 10 ? 9 : 8, e[2]);
            SoundStream x = m.end().fed();
            String what = "C " + Arrays.toString(e);
            DECODING.right(what, x, 16);
            CHECK.due(what + ": first", x.heard(0, 15), e[3]);
            CHECK.due(what + ": second", x.heard(1, 0), e[4]);
        }
        Maker deep = new Maker();
        deep.channels = 2;
        deep.depth = 24;
        deep.c = 10;
        SoundStream x = deep.start().head().constant(24, -1).constant(25, (1 << 24) - 1).end().fed();
        DECODING.right("the greatest difference of 24 bits", x, 16);
        CHECK.due("the greatest sample", x.heard(0, 0), (1 << 23) - 1);
        CHECK.due("the lowest sample", x.heard(1, 0), -(1 << 23));
    }

    private static void constants() {
        for (int size : new int[] {1, 2, 1200}) {
            for (int v : new int[] {-128, -1, 0, 127}) {
                SoundStream x = sized(size, 8).start().frameOf(v).fed();
                DECODING.right("type 0", x, size);
                CHECK.due("one for all, the first", x.heard(0, 0), v);
                CHECK.due("one for all, the last", x.heard(0, size - 1), v);
            }
        }
    }

    private static void plainSamples() {
        for (int depth : new int[] {4, 5, 23, 24}) {
            int half = 1 << (depth - 1);
            Maker m = sized(4, depth);
            m.start().head().put(8, 2).put(depth, half - 1).put(depth, -half).put(depth, -1).put(depth, 0);
            SoundStream x = m.end().fed();
            DECODING.right("type 1 of " + depth + " bits", x, 4);
            heard("type 1 of " + depth + " bits", x, 0, half - 1, -half, -1, 0);
        }
    }

    /** "All samples are 2^w times others of b - w bits, which stand here." */
    private static void lowestBitsThatAreZero() {
        for (int w = 1; w <= 7; w++) {
            Maker m = sized(3, 8);
            m.start().head().put(8, 3).put(w, 1).put(8 - w, -1).put(8 - w, 0).put(8 - w, -1 << (7 - w));
            SoundStream x = m.end().fed();
            DECODING.right("type 1 with w " + w, x, 3);
            heard("type 1 with w " + w, x, 0, -1 << w, 0, -128);
            Maker one = sized(3, 8);
            SoundStream y = one.start().head().put(8, 1).put(w, 1).put(8 - w, -1).end().fed();
            DECODING.right("type 0 with w " + w, y, 3);
            heard("type 0 with w " + w, y, 0, -1 << w, -1 << w, -1 << w);
        }
        Maker m = sized(4, 8);
        // type 9 with w 2: prediction is by the smaller samples
        m.start().head().put(8, 19).put(2, 1).put(6, 5).put(2, 0).put(4, 0).put(4, 1);
        SoundStream z = m.put(new Bits().rest(1, 1).rest(1, -3).rest(1, 0)).end().fed();
        DECODING.right("type 9 with w 2", z, 4);
        heard("type 9 with w 2", z, 0, 20, 24, 12, 12);
        Maker factors = sized(3, 8);
        // 3 x by 2, rounded down, of the smaller samples: 5, 7, 10
        factors.start().head().put(8, 65).put(1, 1).put(7, 5).put(4, 2).put(5, 1).put(3, 3).put(2, 0).put(4, 0).put(4, 15).put(5, 0);
        SoundStream f = factors.end().fed();
        DECODING.right("type 32 with w 1", f, 3);
        heard("type 32 with w 1", f, 0, 10, 14, 20);
    }

    private static void predictorsWithoutFactors() {
        int[] first = {7, -3, 11, 2};
        int[][] due = {
            {0, 1, -1}, {2, 3, 1, 0}, {7, -3, -12, -22, -31}, {7, -3, 11, 50, 112, 200}, {7, -3, 11, 2, -57, -195, -437}
        };
        for (int o = 0; o <= 4; o++) {
            int size = due[o].length;
            Maker m = sized(size, 16);
            m.start().head().put(8, (8 + o) << 1);
            for (int i = 0; i < o; i++) {
                m.put(16, o == 1 ? 2 : first[i]);
            }
            m.put(2, 0).put(4, 0).put(4, 0);
            long[] x = new long[size];
            for (int i = 0; i < size; i++) {
                x[i] = due[o][i];
            }
            for (int i = o; i < size; i++) {
                m.put(new Bits().rest(0, x[i] - guess(x, i, o)));
            }
            SoundStream got = m.end().fed();
            DECODING.right("order " + o, got, size);
            heard("order " + o, got, 0, due[o]);
        }
    }

    private static long guess(long[] x, int i, int o) {
        switch (o) {
            case 0: return 0;
            case 1: return x[i - 1];
            case 2: return 2 * x[i - 1] - x[i - 2];
            case 3: return 3 * x[i - 1] - 3 * x[i - 2] + x[i - 3];
            default: return 4 * x[i - 1] - 6 * x[i - 2] + 4 * x[i - 3] - x[i - 4];
        }
    }

    /** Each order at its edge, 1 .. 32, with factors of 1 and of 15 bits, and h 0 and 15. */
    private static void predictorsWithFactors() {
        for (int o = 1; o <= 32; o++) {
            for (int p : new int[] {1, 15}) {
                Maker m = sized(o + 2, 24);
                m.start().head().put(8, (31 + o) << 1);
                for (int i = 0; i < o; i++) {
                    m.put(24, 1000 + i);
                }
                // only the oldest sample counts: it is taken away, or by 2 and taken away, rounded down
                m.put(4, p - 1).put(5, p == 1 ? 0 : 15);
                for (int j = 0; j < o; j++) {
                    m.put(p, j == o - 1 ? p == 1 ? -1 : -16384 : 0);
                }
                m.put(2, 0).put(4, 0).put(4, 15).put(5, 0);
                SoundStream x = m.end().fed();
                String what = "order " + o + " with factors of " + p + " bits";
                DECODING.right(what, x, o + 2);
                int one = p == 1 ? -1000 : -500;
                CHECK.due(what + ": the last first one", x.heard(0, o - 1), 1000 + o - 1);
                CHECK.due(what + ": the first other one", x.heard(0, o), one);
                int next = o == 1 ? one : 1001;
                CHECK.due(what + ": the last", x.heard(0, o + 1), p == 1 ? -next : Math.floorDiv(-next, 2));
            }
        }
        Maker two = sized(5, 8);
        // order 2, p 5, h 1: (3 x - 2 y) by 2, rounded down
        two.start().head().put(8, 66).put(8, 7).put(8, -4).put(4, 4).put(5, 1).put(5, 3).put(5, -2);
        two.put(2, 0).put(4, 0).put(4, 0).put(new Bits().rest(0, 0).rest(0, 1).rest(0, -1));
        SoundStream x = two.end().fed();
        DECODING.right("two factors", x, 5);
        heard("two factors", x, 0, 7, -4, -13, -15, -11);
        allFactorsGreat();
    }

    /** 32 factors and samples, all as great as can be: their sum is far beyond an int. */
    private static void allFactorsGreat() {
        Maker m = sized(33, 24);
        m.start().head().put(8, 126);
        for (int i = 0; i < 32; i++) {
            m.put(24, i % 2 == 0 ? -8388608 : 8388607);
        }
        m.put(4, 14).put(5, 15);
        for (int j = 0; j < 32; j++) {
            m.put(15, j == 31 ? 0 : -16384);
        }
        // 15 samples -2^23 and 16 samples 2^23 - 1, times -2^14 and by 2^15
        long sum = -16384L * (15L * -8388608 + 16L * 8388607);
        m.put(2, 0).put(4, 0).put(4, 15).put(5, 1).put(1, -1);
        SoundStream x = m.end().fed();
        DECODING.right("all factors great", x, 33);
        CHECK.due("all factors great: the last", x.heard(0, 32), Math.floorDiv(sum, 32768L) - 1);
    }

    /** "By 2^h, rounded down": -1 by 2^15 is -1. */
    private static void roundedDown() {
        for (int h = 0; h <= 15; h++) {
            for (int v : new int[] {1, -1, 7, -8, 127, -128}) {
                Maker m = sized(2, 8);
                m.start().head().put(8, 64).put(8, v).put(4, 1).put(5, h).put(2, 1).put(2, 0).put(4, 0).put(4, 0);
                SoundStream x = m.put(new Bits().rest(0, 0)).end().fed();
                DECODING.right(v + " by 2^" + h, x, 2);
                heard(v + " by 2^" + h, x, 0, v, (int) Math.floor(v / Math.pow(2, h)));
            }
        }
    }

    /** o is not above the size: no rest is left, but there is the k of the one part. */
    private static void asManyFirstSamplesAsThereAre() {
        for (int o = 1; o <= 32; o++) {
            Maker m = sized(o, 8);
            m.start().head().put(8, (31 + o) << 1);
            for (int i = 0; i < o; i++) {
                m.put(8, i);
            }
            m.put(4, 0).put(5, 0).put(o, 0).put(2, 1).put(4, 0).put(5, o % 2 == 0 ? 30 : 31).put(o % 2 == 0 ? 0 : 5, 31);
            SoundStream x = m.end().fed();
            DECODING.right("order " + o + " of " + o, x, o);
            CHECK.due("order " + o + " of " + o + ": the last", x.heard(0, o - 1), o - 1);
        }
        Maker four = sized(4, 8);
        four.start().head().put(8, 24).put(8, 1).put(8, 2).put(8, 3).put(8, 4).put(2, 0).put(4, 0).put(4, 0);
        SoundStream x = four.end().fed();
        DECODING.right("order 4 of 4", x, 4);
        heard("order 4 of 4", x, 0, 1, 2, 3, 4);
    }

    /** "4 bits k (5 if the 2 bits are 1)": 0 .. 14, and 0 .. 30. */
    private static void ks() {
        for (int two = 0; two < 2; two++) {
            for (int k = 0; k < (two == 0 ? 15 : 31); k++) {
                Maker m = sized(5, 8);
                m.start().head().put(8, 16).put(2, two).put(4, 0).put(4 + two, k);
                m.put(new Bits().rest(k, 0).rest(k, -1).rest(k, 1).rest(k, 127).rest(k, -128));
                SoundStream x = m.end().fed();
                DECODING.right("k " + k + " of " + (4 + two) + " bits", x, 5);
                heard("k " + k + " of " + (4 + two) + " bits", x, 0, 0, -1, 1, 127, -128);
            }
        }
    }

    /** "If all of these are 1: 5 bits n, and each rest in n bits with a sign (0 for n 0)." */
    private static void escapes() {
        for (int two = 0; two < 2; two++) {
            for (int n = 0; n <= 31; n++) {
                int half = n == 0 ? 0 : n > 8 ? 128 : 1 << (n - 1);
                int great = n == 0 ? 0 : half - 1;
                Maker m = sized(4, 8);
                m.start().head().put(8, 16).put(2, two).put(4, 0).put(4 + two, -1).put(5, n);
                m.put(n, 0).put(n, great).put(n, -half).put(n, n == 0 ? 0 : -1);
                SoundStream x = m.end().fed();
                DECODING.right("n " + n + " behind " + (4 + two) + " bits", x, 4);
                heard("n " + n + " behind " + (4 + two) + " bits", x, 0, 0, great, -half, n == 0 ? 0 : -1);
            }
        }
    }

    /** "2^q PARTS, each of the size by 2^q samples, the first one o less." */
    private static void partsOfRests() {
        Maker m = new Maker();
        m.start().head();
        // 8 parts of 2, k of 4 bits and escapes, order 2: the first part is empty
        m.put(8, 20).put(8, 1).put(8, 2).put(2, 0).put(4, 3);
        m.put(4, 15).put(5, 31);
        m.put(4, 15).put(5, 0);
        m.put(4, 14).put(new Bits().rest(14, -1).rest(14, 1));
        m.put(4, 15).put(5, 31).put(31, 5).put(31, -5);
        m.put(4, 15).put(5, 1).put(1, -1).put(1, 0);
        for (int part = 5; part < 8; part++) {
            m.put(4, 0).put(new Bits().rest(0, 0).rest(0, 0));
        }
        SoundStream x = m.end().fed();
        DECODING.right("8 parts", x, 16);
        heard("8 parts", x, 0, 1, 2, 3, 4, 4, 5, 11, 12, 12, 12, 12, 12, 12, 12, 12, 12);
        for (int q = 0; q <= 10; q++) {
            Maker all = sized(1024, 8);
            all.start().head().put(8, 16).put(2, 0).put(4, q);
            int[] due = new int[1024];
            for (int i = 0; i < 1024; i++) {
                int part = i / (1024 >> q);
                if (i % (1024 >> q) == 0) {
                    all.put(4, part % 15);
                }
                due[i] = i % 7 - 3;
                all.put(new Bits().rest(part % 15, due[i]));
            }
            SoundStream y = all.end().fed();
            DECODING.right("2^" + q + " parts", y, 1024);
            for (int i = 0; i < 1024; i += 31) {
                CHECK.due("2^" + q + " parts: heard(0, " + i + ")", y.heard(0, i), due[i]);
            }
        }
        Maker fifteen = sized(2, 8);
        fifteen.start().head().put(8, 16).put(2, 1).put(4, 1).put(5, 15).put(new Bits().rest(15, -100)).put(5, 31).put(5, 8).put(8, 99);
        SoundStream z = fifteen.end().fed();
        DECODING.right("k 15 of 5 bits is no escape", z, 2);
        heard("k 15 of 5 bits is no escape", z, 0, -100, 99);
    }

    private static void fullRows() {
        SoundStream x = new SoundStream();
        x.form(2, 24, 16, 1);
        x.noise(0, 1200, 99, 24);
        x.noise(1, 1200, 7, 24);
        x.encode(true);
        DECODING.right("1200 samples", x, 1200);
        SoundStream full = Recipes.fullStream();
        DECODING.wrong("a full stream with more than its frames", full, 4, full.frame(74, 0) + full.frame(74, 1));
    }

    private static void noneIsDecodedThen() {
        SoundStream x = Recipes.twoChannels();
        int length = x.told(0);
        DECODING.right("as encoded", x, 40);
        DECODING.right("and again", x, 40);
        x.feed(1, 0);
        DECODING.wrong("a byte more", x, 13, length);
        DECODING.wrong("and again", x, 13, length);
        x.cut(length);
        DECODING.right("as it was", x, 40);
    }

    /** Nothing of a subframe lasts for the next one: factors, h, w and parts are those of each. */
    private static void oneFrameBehindAnother() {
        Bits[] bodies = {
            new Bits().put(8, 64).put(8, 90).put(4, 2).put(5, 1).put(3, 1).put(2, 0).put(4, 0).put(4, 15).put(5, 0),
            new Bits().put(8, 18).put(8, 50).put(2, 0).put(4, 0).put(4, 15).put(5, 0),
            new Bits().put(8, 20).put(8, 50).put(8, 51).put(2, 0).put(4, 0).put(4, 15).put(5, 0),
            new Bits().put(8, 1).put(3, 1).put(5, 3),
            new Bits().put(8, 0).put(8, 33),
            new Bits().put(8, 16).put(2, 1).put(4, 2).put(5, 0).put(1, 1).put(5, 31).put(5, 0).put(5, 1).put(2, 2).put(5, 3).put(4, 8)
        };
        int[][] due = {{90, 45, 22, 11}, {50, 50, 50, 50}, {50, 51, 52, 53}, {24, 24, 24, 24}, {33, 33, 33, 33}, {0, 0, 0, 0}};
        for (int one = 0; one < bodies.length; one++) {
            for (int two = 0; two < bodies.length; two++) {
                Maker pair = new Maker();
                pair.channels = 2;
                pair.c = 1;
                pair.size = 4;
                SoundStream x = pair.start().head().put(bodies[one]).put(bodies[two]).end().fed();
                String what = "subframe " + two + " behind " + one;
                DECODING.right(what, x, 4);
                heard(what, x, 0, due[one]);
                heard(what, x, 1, due[two]);
            }
        }
    }

    /** Nothing of a stream lasts for the next decode() of the same object, whether it had a fault or not. */
    private static void oneStreamBehindAnother() {
        byte[][] streams = new byte[Recipes.ALL.length + 3][];
        for (int i = 0; i < Recipes.ALL.length; i++) {
            SoundStream x = Recipes.ALL[i].make();
            streams[i] = Recipes.NAMES[i].equals("a full stream") ? new byte[] {102, 76, 97} : bytes(x);
        }
        Maker by = sized(1200, 24);
        by.way = 1;
        streams[Recipes.ALL.length] = by.start().frameOf(-7).out.bytes();
        Maker known = sized(20, 4);
        known.samples = 20;
        known.least = 20;
        streams[Recipes.ALL.length + 1] = known.start().frameOf(-7).out.bytes();
        Maker less = sized(20, 4);
        less.samples = 21;
        streams[Recipes.ALL.length + 2] = less.start().frameOf(-7).out.bytes();
        for (byte[] one : streams) {
            for (byte[] two : streams) {
                SoundStream x = Maker.fed(one);
                x.decode();
                x.cut(0);
                Maker.feed(x, two);
                SoundStream fresh = Maker.fed(two);
                CHECK.due("decode() behind another one", x.decode(), fresh.decode());
                CHECK.due("all that is seen then", State.of(x).equals(State.of(fresh)) ? 1 : 0, 1);
            }
        }
    }

    private static byte[] bytes(SoundStream x) {
        byte[] all = new byte[x.told(0)];
        for (int i = 0; i < all.length; i++) {
            all[i] = (byte) x.stream(i);
        }
        return all;
    }

    /** decode() leaves the rows, the stream and what was encoded, with a fault and without one. */
    private static void nothingElseChanges() {
        for (Recipes.Recipe recipe : Recipes.ALL) {
            SoundStream x = recipe.make();
            SoundStream twin = recipe.make();
            x.decode();
            CHECK.due("the rows", x.ramp(0, 0, 0, 0), twin.ramp(0, 0, 0, 0));
            CHECK.due("the bytes", x.told(0), twin.told(0));
            CHECK.due("the frames encoded", x.told(1), twin.told(1));
            for (int i = 0; i < 200; i += 8) {
                CHECK.due("the stream", x.stream(i), twin.stream(i));
            }
            x.clear();
            twin.clear();
            CHECK.due("encode()", x.encode(false), twin.encode(false));
            CHECK.due("the form", x.stream(8), twin.stream(8));
            CHECK.due("the form's rate, channels and depth", x.stream(16), twin.stream(16));
        }
    }
}
