import java.util.Arrays;

/** Promise 18: "The fault that the last decode() met, 1 .. 15": each at its edge, and which one is met first. */
public final class Promise18FaultTest {
    private static final Check CHECK = new Check();
    private static final Decoding DECODING = new Decoding(CHECK);
    /** A frame's first byte, and where its subframes begin when its head has check8 as the seventh byte. */
    private static final int FRAME = 42;
    private static final int BODY = FRAME + 7;

    public static void main(String[] args) {
        none();
        start();
        blocks();
        information();
        frameStart();
        frameCodes();
        numbers();
        sizes();
        sizesBefore();
        samplesKnown();
        check8();
        subframeTypes();
        subframeZeros();
        subframeOrders();
        factors();
        parts();
        greatV();
        samplesBeyond();
        channelsBeyond();
        check16();
        ends();
        lessSamples();
        anotherSum();
        CHECK.end();
    }

    private static Maker maker(int way, int greatest, int channels, int depth) {
        Maker m = new Maker();
        m.way = way;
        m.greatest = greatest;
        m.channels = channels;
        m.depth = depth;
        m.c = channels - 1;
        return m;
    }

    private static Maker withBlocks() {
        Maker m = new Maker();
        m.onlyBlock = false;
        return m.start();
    }

    private static SoundStream cut(Maker m, int bytes) {
        return Maker.fed(Arrays.copyOf(m.out.bytes(), bytes));
    }

    /** "0 when it met none, or there was none." */
    private static void none() {
        SoundStream x = new SoundStream();
        CHECK.due("there was no decode()", x.fault(), 0);
        x.decode();
        CHECK.due("an empty stream", x.fault(), 1);
        x.sample(0, 1);
        x.encode(false);
        CHECK.due("the last decode() counts", x.fault(), 1);
        x.decode();
        CHECK.due("it met none", x.fault(), 0);
        x.cut(10);
        x.feed(1, 1);
        x.clear();
        CHECK.due("until the next decode()", x.fault(), 0);
        x.decode();
        CHECK.due("then there is one", x.fault(), 13);
    }

    /** 1: "not the first four bytes, or less than four". */
    private static void start() {
        DECODING.wrong("no bytes", new SoundStream(), 1, 0);
        int[] due = {102, 76, 97, 67};
        for (int i = 0; i < 4; i++) {
            for (int v : new int[] {0, 255, due[i] - 1, due[i] + 1, due[i] ^ 128}) {
                SoundStream x = new Maker().start().fed();
                x.spoil(i, v);
                DECODING.wrong("byte " + i + " is " + v, x, 1, 0);
                x.cut(i + 1);
                DECODING.wrong("byte " + i + " is " + v + ", and the last", x, 1, 0);
            }
            DECODING.wrong(i + " right bytes", cut(new Maker().start(), i), 1, 0);
        }
        DECODING.wrong("four right bytes", cut(new Maker().start(), 4), 13, 4);
    }

    /** 2: "the first block isn't of type 0 with 34 bytes, another one has the type 0 or 127". */
    private static void blocks() {
        for (int type : new int[] {1, 2, 126, 127}) {
            for (int last = 0; last < 2; last++) {
                SoundStream x = new Maker().start().fed();
                x.spoil(4, 128 * last + type);
                DECODING.wrong("the first block of type " + type, x, 2, 4);
                x.cut(8);
                DECODING.wrong("the first 32 bits of type " + type, x, 2, 4);
                x.cut(7);
                DECODING.wrong("31 bits and less of type " + type, x, 13, 4);
            }
        }
        int[][] lengths = {{5, 1}, {6, 1}, {7, 33}, {7, 35}, {7, 0}, {7, 255}};
        for (int[] e : lengths) {
            SoundStream x = new Maker().start().fed();
            x.spoil(e[0], e[1]);
            DECODING.wrong("length: byte " + e[0] + " is " + e[1], x, 2, 4);
            x.cut(8);
            DECODING.wrong("length and no more: byte " + e[0] + " is " + e[1], x, 2, 4);
        }
        for (int type = 0; type < 128; type++) {
            for (int last = 0; last < 2; last++) {
                Maker m = withBlocks().block(0, 2, 5).put(40, 0).block(last, type, 1).put(8, 0);
                boolean good = type >= 1 && type <= 126;
                if (good && last == 1) {
                    DECODING.right("the last block of type " + type, m, 0);
                } else if (good) {
                    DECODING.wrong("behind a block of type " + type, m, 13, 56);
                } else {
                    DECODING.firstMet("a block of type " + type, m, 2, 51, 55);
                }
            }
        }
        DECODING.firstMet("the type comes before the length", withBlocks().block(1, 127, 99), 2, 42, 46);
        DECODING.firstMet("type 0 with 34 bytes again", withBlocks().block(1, 0, 34).put(34 * 8, 0), 2, 42, 46);
    }

    /** 3: the least size, the greatest, the rate, the channels, the depth, the samples. */
    private static void information() {
        long[][] wrong = {
            {15, 16, 1, 1, 8, 0}, {0, 16, 1, 1, 8, 0}, {0, 0, 1, 1, 8, 0}, {15, 15, 1, 1, 8, 0}, {17, 16, 1, 1, 8, 0},
            {65535, 65534, 1, 1, 8, 0}, {16, 15, 1, 1, 8, 0}, {16, 0, 1, 1, 8, 0}, {16, 16, 0, 1, 8, 0}, {16, 16, 1, 3, 8, 0},
            {16, 16, 1, 8, 8, 0}, {16, 16, 1, 1, 3, 0}, {16, 16, 1, 1, 1, 0}, {16, 16, 1, 1, 25, 0}, {16, 16, 1, 1, 32, 0},
            {16, 16, 1, 1, 8, 1201}, {16, 16, 1, 1, 8, 65536}, {16, 16, 1, 1, 8, 1L << 31}, {16, 16, 1, 1, 8, 1L << 32},
            {16, 16, 1, 1, 8, (1L << 32) + 5}, {16, 16, 1, 1, 8, 1L << 35}, {16, 16, 1, 1, 8, (1L << 36) - 1}
        };
        for (long[] e : wrong) {
            String what = "information " + Arrays.toString(e);
            DECODING.wrong(what, informed(e), 3, 8);
            DECODING.wrong(what + " before a frame", informed(e).put(64, -1), 3, 8);
            DECODING.wrong(what + ", not all of it", cut(informed(e), 41), 13, 4);
        }
        long[][] right = {
            {16, 16, 1, 1, 8, 0}, {16, 17, 1, 1, 8, 0}, {65535, 65535, 1, 1, 8, 0}, {16, 65535, 1048575, 1, 8, 0}, {16, 16, 1, 2, 8, 0},
            {16, 16, 1, 1, 4, 0}, {16, 16, 1, 1, 24, 0}, {17, 17, 2, 2, 5, 0}
        };
        for (long[] e : right) {
            DECODING.right("information " + Arrays.toString(e), informed(e), 0);
        }
        DECODING.wrong("1200 samples are known, and none comes", informed(new long[] {16, 16, 1, 1, 8, 1200}), 14, 42);
        Maker open = new Maker();
        open.onlyBlock = false;
        open.rate = 0;
        DECODING.wrong("before the next block", open.start().block(1, 127, 0), 3, 8);
    }

    private static Maker informed(long[] e) {
        Maker m = new Maker();
        m.least = (int) e[0];
        m.greatest = (int) e[1];
        m.rate = (int) e[2];
        m.channels = (int) e[3];
        m.depth = (int) e[4];
        m.samples = e[5];
        return m.start();
    }

    /** 4: "of its first 16 bits, the fourteen, the next one, or V". */
    private static void frameStart() {
        for (int bit = 0; bit < 14; bit++) {
            Maker m = new Maker();
            m.sync = 16382 ^ 1 << bit;
            DECODING.firstMet("bit " + bit + " of the fourteen", m.start().frameOf(0), 4, FRAME, FRAME + 2);
        }
        Maker next = new Maker();
        next.bit15 = 1;
        DECODING.firstMet("the fifteenth bit", next.start().frameOf(0), 4, FRAME, FRAME + 2);
        for (int way = 0; way < 2; way++) {
            Maker first = new Maker();
            first.way = way;
            DECODING.right("any V of the first frame", first.start().frameOf(0), 16);
            int place = first.bytes();
            first.way = 1 - way;
            first.number = new int[] {way == 0 ? 16 : 1};
            DECODING.firstMet("another V", first.frameOf(0), 4, place, place + 2);
        }
        // V 1 of a frame in a stream before says nothing of this one
        Maker one = new Maker();
        one.way = 1;
        SoundStream x = one.start().frameOf(0).fed();
        x.decode();
        x.spoil(43, x.spoil(43, 0) & 254);
        x.seal(8, 42, 48);
        x.seal(16, 42, 51);
        DECODING.right("V 0 behind a decode() with V 1", x, 16);
    }

    /** 5: "of the next 16, B is 0, R 15, C above 10 or with other channels, S 3 or 7 or another depth, or the bit behind". */
    private static void frameCodes() {
        for (int b = 0; b < 16; b++) {
            code("B " + b, 1, 8, b, 0, 0, 0, 0, b != 0);
        }
        for (int r = 0; r < 16; r++) {
            code("R " + r, 1, 8, 6, r, 0, 0, 0, r != 15);
        }
        for (int c = 0; c < 16; c++) {
            code("C " + c + " of one channel", 1, 8, 6, 0, c, 0, 0, c == 0);
            code("C " + c + " of two channels", 2, 8, 6, 0, c, 0, 0, c == 1 || (c >= 8 && c <= 10));
        }
        int[] depths = {0, 8, 12, 0, 16, 20, 24, 0};
        for (int s = 0; s < 8; s++) {
            for (int depth = 4; depth <= 24; depth++) {
                code("S " + s + " of " + depth + " bits", 1, depth, 6, 0, 0, s, 0, s == 0 || depths[s] == depth);
            }
        }
        code("the bit behind", 1, 8, 6, 0, 0, 0, 1, false);
        DECODING.wrong("three bytes of a frame", new Maker().start().put(16, 65528).put(8, 0x60), 13, FRAME);
    }

    /** A wrong number follows: it comes later, and shows that the codes were right. */
    private static void code(String what, int channels, int depth, int b, int r, int c, int s, int bit, boolean good) {
        Maker m = maker(0, 16, channels, depth);
        m.b = b;
        m.r = r;
        m.c = c;
        m.s = s;
        m.bit32 = bit;
        m.number = new int[] {99};
        m.start().headOnly();
        DECODING.firstMet(what, m, good ? 6 : 5, FRAME, FRAME + (good ? 5 : 4));
    }

    /** 6: "its number is not what it must be, byte by byte". */
    private static void numbers() {
        for (int v = 0; v < 256; v++) {
            Maker m = new Maker();
            m.number = new int[] {v};
            m.start().headOnly();
            if (v == 0) {
                DECODING.wrong("the first frame's number", m, 13, FRAME);
            } else {
                DECODING.firstMet("the first frame's number " + v, m, 6, FRAME, FRAME + 5);
            }
        }
        Maker longer = new Maker();
        longer.number = new int[] {192, 128};
        DECODING.firstMet("0 in two bytes", longer.start().frameOf(0), 6, FRAME, FRAME + 5);
        second(0, 16, new int[] {1}, new int[][] {{0}, {2}, {16}, {128}, {193, 129}});
        second(1, 16, new int[] {16}, new int[][] {{0}, {1}, {15}, {17}, {144}});
        second(1, 127, new int[] {127}, new int[][] {{126}, {128}, {255}, {193, 191}});
        int[][] wrong = {{128}, {1}, {193, 128}, {195, 128}, {224, 130, 128}, {194, 129}, {194, 127}, {194, 0}, {194, 192}};
        second(1, 128, new int[] {194, 128}, wrong);
        second(1, 191, new int[] {194, 191}, new int[][] {{191}, {194, 190}, {195, 128}, {194, 255}, {194, 63}});
        second(1, 192, new int[] {195, 128}, new int[][] {{194, 191}, {195, 129}, {194, 128}});
        second(1, 1184, new int[] {210, 160}, new int[][] {{210, 161}, {210, 32}, {211, 160}, {224, 146, 160}});
    }

    /** The number of a second frame behind one of some size; a wrong byte is met before those behind it are read. */
    private static void second(int way, int size, int[] good, int[][] wrong) {
        for (int i = -1; i < wrong.length; i++) {
            int[] number = i < 0 ? good : wrong[i];
            Maker m = maker(way, way == 0 ? 16 : 1200, 1, 8);
            m.b = 7;
            m.size = size;
            m.start().frameOf(0);
            int place = m.bytes();
            m.number = number;
            m.size = 16;
            m.frameOf(1);
            String what = "number " + Arrays.toString(number) + " behind " + size;
            if (i < 0) {
                DECODING.right(what, m, size + 16);
                DECODING.wrong(what + ", its last byte missing", cut(m, place + 3 + good.length), 13, place);
            } else {
                int bad = number[0] == good[0] && good.length == 2 ? 2 : 1;
                DECODING.firstMet(what, m, 6, place, place + 4 + bad);
            }
        }
    }

    /** 7 (when all bits up to check8 are read): "its size is above the greatest". */
    private static void sizes() {
        int[] sizes = {0, 192, 576, 1152, 2304, 4608, 0, 0, 256, 512, 1024, 2048, 4096, 8192, 16384, 32768};
        for (int b = 1; b < 16; b++) {
            if (b == 6 || b == 7) {
                continue;
            }
            Maker above = maker(0, sizes[b] - 1, 1, 8);
            above.b = b;
            DECODING.firstMet("B " + b + ", one above the greatest", above.start().headOnly().put(8, 0), 7, FRAME, FRAME + 5);
            Maker just = maker(0, sizes[b], 1, 8);
            just.b = b;
            if (sizes[b] <= 1200) {
                DECODING.right("B " + b + ", just the greatest", just.start().frameOf(0), sizes[b]);
            } else {
                DECODING.firstMet("B " + b + ", above 1200", just.start().headOnly(), 7, FRAME, FRAME + 5);
            }
        }
        int[][] told = {{6, 16, 17}, {6, 255, 256}, {7, 16, 17}, {7, 256, 257}, {7, 1199, 1200}, {7, 16, 65536}, {7, 65535, 65536}};
        for (int[] e : told) {
            Maker above = maker(0, e[1], 1, 8);
            above.b = e[0];
            above.size = e[2];
            DECODING.firstMet(e[2] + " above " + e[1], above.start().headOnly().put(8, 0), 7, FRAME, FRAME + e[0]);
        }
        for (int r = 12; r <= 14; r++) {
            Maker rate = new Maker();
            rate.r = r;
            rate.size = 17;
            int bytes = r == 12 ? 7 : 8;
            DECODING.firstMet("behind R " + r, rate.start().headOnly().put(8, 0), 7, FRAME, FRAME + bytes);
        }
    }

    /** 7: "or the frame before was smaller than that (V 0), or than the least (V 1)". */
    private static void sizesBefore() {
        int[][] cases = {
            {0, 15, 16, 20, 7}, {0, 16, 16, 20, 7}, {0, 19, 16, 20, 7}, {0, 20, 16, 20, 0}, {0, 15, 16, 16, 7}, {0, 16, 16, 16, 0},
            {1, 1, 16, 20, 7}, {1, 15, 16, 20, 7}, {1, 16, 16, 20, 0}, {1, 19, 16, 20, 0}, {1, 19, 20, 20, 7}, {1, 20, 20, 20, 0}
        };
        for (int[] e : cases) {
            Maker m = maker(e[0], e[3], 1, 8);
            m.least = e[2];
            m.size = e[1];
            DECODING.right("the only frame may be small", m.start().frameOf(0), e[1]);
            int place = m.bytes();
            m.size = 1;
            m.number = new int[] {e[0] == 0 ? 1 : e[1]};
            m.frameOf(1);
            String what = "a frame behind " + Arrays.toString(e);
            if (e[4] == 0) {
                DECODING.right(what, m, e[1] + 1);
            } else {
                DECODING.firstMet(what, m, 7, place, place + 6);
            }
        }
        Maker third = maker(0, 16, 1, 8);
        third.start().frameOf(0);
        third.number = new int[] {1};
        third.size = 3;
        third.frameOf(0);
        int place = third.bytes();
        third.number = new int[] {2};
        third.size = 16;
        DECODING.wrong("behind a small second frame", third.frameOf(0), 7, place);
    }

    /** 7: "or there would be more samples than are known, or than 1200". */
    private static void samplesKnown() {
        int[][] cases = {{16, 16, 0}, {15, 16, 7}, {1, 1, 0}, {1, 2, 7}, {1200, 16, 14}, {0, 16, 0}, {17, 16, 14}};
        for (int[] e : cases) {
            Maker m = new Maker();
            m.samples = e[0];
            m.size = e[1];
            m.start().frameOf(0);
            String what = e[1] + " samples where " + e[0] + " are known";
            if (e[2] == 0) {
                DECODING.right(what, m, e[1]);
            } else {
                DECODING.wrong(what, m, e[2], e[2] == 7 ? FRAME : m.bytes());
            }
        }
        for (int samples : new int[] {0, 1200, 1199}) {
            Maker m = maker(1, 600, 1, 8);
            m.samples = samples;
            m.b = 7;
            m.size = 600;
            m.start().frameOf(0);
            int place = m.bytes();
            m.number = new int[] {192 + 600 / 64, 128 + 600 % 64};
            m.frameOf(0);
            if (samples == 1199) {
                DECODING.wrong("one more than 1199", m, 7, place);
                continue;
            }
            DECODING.right("1200 samples", m, 1200);
            place = m.bytes();
            m.number = new int[] {192 + 1200 / 64, 128 + 1200 % 64};
            m.size = 1;
            DECODING.firstMet("one more than 1200", m.headOnly().put(8, 0), 7, place, place + 8);
        }
        for (int size : new int[] {1200, 1201}) {
            Maker m = maker(0, 65535, 2, 8);
            m.b = 7;
            m.size = size;
            m.start().frameOf(0);
            if (size == 1200) {
                DECODING.right("a frame of 1200", m, 1200);
            } else {
                DECODING.wrong("a frame of 1201", m, 7, FRAME);
            }
        }
    }

    /** 8: check8. */
    private static void check8() {
        for (int bit = 0; bit < 8; bit++) {
            SoundStream x = new Maker().start().frameOf(3).fed();
            x.spoil(FRAME + 6, x.spoil(FRAME + 6, 0) ^ 1 << bit);
            DECODING.wrong("bit " + bit + " of check8", x, 8, FRAME);
            x.cut(FRAME + 7);
            DECODING.wrong("bit " + bit + " of check8, and no more", x, 8, FRAME);
            x.cut(FRAME + 6);
            DECODING.wrong("check8 is not there", x, 13, FRAME);
        }
        for (int r = 12; r <= 14; r++) {
            Maker m = new Maker();
            m.r = r;
            SoundStream x = m.start().frameOf(3).fed();
            x.spoil(FRAME + 6, x.spoil(FRAME + 6, 0) ^ 1);
            DECODING.wrong("what means nothing counts for check8", x, 8, FRAME);
            x.seal(8, FRAME, FRAME + (r == 12 ? 7 : 8));
            DECODING.wrong("and for check16", x, 12, FRAME);
            x.seal(16, FRAME, x.told(0) - 2);
            DECODING.right("but with both it is right", x, 16);
        }
    }

    /** 9: "of a subframe, the first bit or the type (when eight bits are read)". */
    private static void subframeTypes() {
        for (int lead = 0; lead < 256; lead++) {
            int type = lead >> 1 & 63;
            boolean good = lead < 128 && (type <= 1 || (type >= 8 && type <= 12) || type >= 32);
            Maker m = maker(0, 32, 1, 8);
            m.size = 32;
            m.start().head().put(8, lead);
            if (good) {
                DECODING.wrong("lead " + lead, m, 13, FRAME);
            } else {
                DECODING.firstMet("lead " + lead, m, 9, FRAME, BODY + 1);
            }
            Maker both = maker(0, 32, 2, 8);
            both.size = 32;
            both.start().head().constant(8, 1).put(8, lead);
            DECODING.wrong("lead " + lead + " of the second one", both, good ? 13 : 9, FRAME);
        }
        DECODING.wrong("no subframe", new Maker().start().head(), 13, FRAME);
    }

    /** 9: "b - w below 1 (as soon as that is met)": with b - 1 zeros w is b at least, whatever follows. */
    private static void subframeZeros() {
        for (int depth = 4; depth <= 24; depth++) {
            for (int w = 1; w < depth; w++) {
                Maker m = maker(0, 16, 1, depth);
                m.start().head().put(8, 1).put(w, 1).put(depth - w, -1);
                DECODING.right("w " + w + " of " + depth, m.end(), 16);
            }
            Maker all = maker(0, 16, 1, depth);
            all.start().head().put(8, 1).put(depth, 1);
            DECODING.firstMet("w " + depth + " of " + depth, all, 9, FRAME, BODY + 1 + (depth - 1 + 7) / 8);
            Maker no1 = maker(0, 16, 1, depth);
            no1.start().head().put(8, 1).put(depth - 1, 0);
            DECODING.firstMet("no 1 in " + depth + " bits", no1, 9, FRAME, BODY + 1 + (depth - 1 + 7) / 8);
        }
        Maker ten = maker(0, 16, 1, 10);
        DECODING.wrong("eight zeros of 10 bits are not enough to see it", ten.start().head().put(8, 1).put(8, 0), 13, FRAME);
        Maker difference = maker(0, 16, 2, 8);
        difference.c = 9;
        difference.start().head().put(8, 1).put(8, 1).put(1, 0).put(8, 1).put(7, 1).put(1, 0);
        DECODING.right("w 8 of a difference", difference.end(), 16);
        Maker second = maker(0, 16, 2, 8);
        second.c = 9;
        DECODING.wrong("w 8 of the second channel", second.start().head().constant(9, 0).put(8, 1).put(8, 1).put(7, 0), 9, FRAME);
    }

    /** 9: "or o above the size (behind w)". */
    private static void subframeOrders() {
        for (int size = 1; size <= 33; size++) {
            for (int type = 8; type < 64; type++) {
                int o = type < 32 ? type - 8 : type - 31;
                if (type > 12 && type < 32) {
                    continue;
                }
                Maker m = maker(0, 33, 1, 8);
                m.size = size;
                DECODING.wrong("order " + o + " of " + size, m.start().head().put(8, type << 1), o > size ? 9 : 13, FRAME);
                Maker w = maker(0, 33, 1, 8);
                w.size = size;
                DECODING.wrong("order " + o + " of " + size + ", before w", w.start().head().put(8, type << 1 | 1), 13, FRAME);
                w.put(3, 1).put(5, 0);
                DECODING.wrong("order " + o + " of " + size + ", behind w", w, o > size ? 9 : 13, FRAME);
            }
        }
    }

    /** 10: "p 16, or h below 0". */
    private static void factors() {
        for (int p = 1; p <= 16; p++) {
            Maker m = new Maker();
            m.start().head().put(8, 64).put(8, 1).put(4, p - 1);
            if (p == 16) {
                DECODING.firstMet("p 16", m.put(16, 0), 10, FRAME, BODY + 3);
            } else {
                DECODING.wrong("p " + p, m.put(4, 0), 13, FRAME);
            }
        }
        for (int h = -16; h < 16; h++) {
            Maker m = new Maker();
            m.start().head().put(8, 64).put(8, 1).put(4, 14).put(5, h).put(7, 0);
            if (h < 0) {
                DECODING.firstMet("h " + h, m, 10, FRAME, BODY + 4);
            } else {
                DECODING.wrong("h " + h, m, 13, FRAME);
            }
        }
        Maker before = new Maker();
        DECODING.wrong("p comes before h", before.start().head().put(8, 64).put(8, 1).put(4, 15).put(4, 15), 10, FRAME);
    }

    /** 10: "the two bits of the rest 2 or 3, parts that have no whole number of samples, or less than o". */
    private static void parts() {
        for (int two = 0; two < 4; two++) {
            // a sample of 22 bits: the two bits end a byte, and q is in the next one
            Maker m = maker(0, 16, 1, 22);
            m.start().head().put(8, 18).put(22, 1).put(2, two);
            if (two < 2) {
                DECODING.wrong("two bits " + two, m, 13, FRAME);
            } else {
                DECODING.firstMet("two bits " + two, m.put(4, 15), 10, FRAME, BODY + 4);
            }
        }
        for (int size = 1; size <= 64; size++) {
            for (int q = 0; q < 16; q++) {
                for (int o : new int[] {0, 1, 2, 3, 4}) {
                    if (o <= size) {
                        part(size, o, q);
                    }
                }
            }
        }
        Maker most = maker(0, 64, 1, 8);
        most.size = 64;
        most.start().head().put(8, 126).put(32 * 8, 0).put(4, 0).put(5, 0).put(32, 0).put(2, 0).put(4, 1).put(1, 0);
        DECODING.wrong("parts of 32 with order 32", most, 13, FRAME);
        Maker less = maker(0, 64, 1, 8);
        less.size = 62;
        less.start().head().put(8, 126).put(32 * 8, 0).put(4, 0).put(5, 0).put(32, 0).put(2, 0).put(4, 1).put(1, 0);
        DECODING.wrong("parts of 31 with order 32", less, 10, FRAME);
    }

    private static void part(int size, int o, int q) {
        boolean good = size % (1 << q) == 0 && size / (1 << q) >= o;
        Maker m = maker(0, 64, 1, 18);
        m.size = size;
        m.start().head().put(8, 16 + 2 * o).put(18 * o, 0).put(2, 0).put(4, q);
        int bits = 8 + 18 * o + 6;
        // ones up to the byte can't end a part's k
        m.put((8 - bits % 8) % 8, 0);
        DECODING.wrong("2^" + q + " parts of " + size + " with order " + o, m, good ? 13 : 10, FRAME);
        if (!good) {
            DECODING.wrong("and less bits", cut(m, BODY + (bits + 7) / 8 - 1), 13, FRAME);
        }
    }

    /** 11: "a v of 2^32 or more (as soon as that is met)": k 30 takes four zeros, k 29 eight, and so on. */
    private static void greatV() {
        // with k 17 the zeros fill 4096 bytes, which feed() does not bring in 512 calls
        for (int k = 18; k <= 30; k++) {
            int zeros = 1 << (32 - k);
            int bits = 8 + 2 + 4 + 5 + zeros;
            Maker m = maker(0, 16, 1, 24);
            m.size = 1;
            m.start().head().put(8, 16).put(2, 1).put(4, 0).put(5, k).put(new Bits().zeros(zeros)).put(1, 1);
            DECODING.firstMet("v 2^32 with k " + k, m, 11, FRAME, BODY + (bits + 7) / 8);
            Maker less = maker(0, 16, 1, 24);
            less.size = 1;
            less.start().head().put(8, 16).put(2, 1).put(4, 0).put(5, k).put(new Bits().zeros(zeros - 1));
            DECODING.wrong("a zero less with k " + k, less.put(1, 1).put(15, 0), 13, FRAME);
        }
        Maker most = maker(0, 16, 1, 8);
        most.size = 1;
        most.start().head().put(8, 16).put(2, 0).put(4, 0).put(4, 14).put(new Bits().zeros(3900 * 8));
        DECODING.wrong("zeros to the end, and v is not yet 2^32", most, 13, FRAME);
        // 2^32 - 1 is -2^31, and -256 times the lowest sample takes it back
        Maker taken = maker(0, 16, 1, 24);
        taken.size = 2;
        taken.start().head().put(8, 64).put(24, -8388608).put(4, 14).put(5, 0).put(15, -256);
        taken.put(2, 1).put(4, 0).put(5, 30).put(new Bits().rest(30, -2147483648L));
        DECODING.right("v 2^32 - 1", taken.end(), 2);
    }

    /** 11: "a sample of a subframe beyond its b - w bits (as soon as it is made)". */
    private static void samplesBeyond() {
        for (int depth : new int[] {4, 8, 13, 24}) {
            for (int w : new int[] {0, 1, depth - 1}) {
                int half = 1 << (depth - w - 1);
                for (int v : new int[] {half - 1, half, -half, -half - 1}) {
                    Maker m = maker(0, 16, 1, depth);
                    m.size = 2;
                    m.start().head().put(8, w > 0 ? 17 : 16).put(w, 1).put(2, 0).put(4, 0).put(4, 15).put(5, 31).put(31, v);
                    int bits = 8 + w + 6 + 9 + 31;
                    String what = v + " in " + (depth - w) + " bits";
                    if (v < half && v >= -half) {
                        DECODING.right(what, m.put(31, v).end(), 2);
                    } else {
                        DECODING.firstMet(what, m, 11, FRAME, BODY + (bits + 7) / 8);
                    }
                }
            }
        }
        int[][] predicted = {{127, 0}, {128, 11}, {-128, 0}, {-129, 11}};
        for (int[] e : predicted) {
            for (int type = 9; type <= 12; type++) {
                Maker m = new Maker();
                m.size = type - 7;
                m.start().head().put(8, type << 1);
                int guess = 0;
                for (int i = 0; i < type - 8; i++) {
                    m.put(8, 50);
                    guess = 50;
                }
                m.put(2, 0).put(4, 0).put(4, 7).put(new Bits().rest(7, e[0] - guess));
                String what = "type " + type + " to " + e[0];
                if (e[1] == 0) {
                    DECODING.right(what, m.end(), type - 7);
                } else {
                    m.out.align();
                    DECODING.wrong(what, m, 11, FRAME);
                }
            }
        }
        Maker line = new Maker();
        line.start().head().put(8, 20).put(8, 0).put(8, 127).put(2, 0).put(4, 0).put(4, 15).put(5, 0).put(1, 0);
        DECODING.wrong("predicted beyond, the rest in no bits", line, 11, FRAME);
    }

    /** 11: "or (behind both subframes) one of a channel beyond its depth". */
    private static void channelsBeyond() {
        // C, the values in both subframes, and whether both channels stay within 8 bits
        int[][] values = {
            {8, -128, 0, 1}, {8, -128, 1, 0}, {8, 127, 0, 1}, {8, 127, -1, 0}, {8, 0, -127, 1}, {8, 0, -128, 0}, {8, 0, 128, 1}, {8, 0, 129, 0},
            {9, 0, 127, 1}, {9, 1, 127, 0}, {9, 0, -128, 1}, {9, -1, -128, 0}, {9, 255, -128, 1}, {9, -255, 127, 1}, {9, -256, 127, 0},
            {10, 127, 0, 1}, {10, 127, 1, 0}, {10, 127, -1, 0}, {10, 126, 2, 1}, {10, 126, 3, 0}, {10, 126, -2, 1}, {10, -128, 0, 1},
            {10, -128, 1, 1}, {10, -128, -1, 1}, {10, -128, 2, 0}, {10, -128, -2, 0}, {10, -1, 255, 1}, {10, -1, -255, 1}, {10, 0, 255, 0},
            {10, 0, -256, 0}, {10, -1, -256, 0}
        };
        for (int[] e : values) {
            Maker m = maker(0, 16, 2, 8);
            m.c = e[0];
            m.start().head().constant(e[0] == 9 ? 9 : 8, e[1]).constant(e[0] == 9 ? 8 : 9, e[2]);
            String what = "C " + Arrays.toString(e);
            if (e[3] == 1) {
                DECODING.right(what, m.end(), 16);
            } else {
                // seven bits up to the byte, all 1: the range comes first
                DECODING.firstMet(what, m.put(7, -1), 11, FRAME, BODY + 5);
            }
        }
        Maker later = maker(0, 16, 2, 8);
        later.c = 8;
        DECODING.wrong("not before the second subframe", later.start().head().constant(8, -128).put(8, 4), 9, FRAME);
        Maker last = maker(0, 16, 2, 8);
        last.c = 8;
        last.start().head().constant(8, 127).put(8, 2);
        for (int i = 0; i < 16; i++) {
            last.put(9, i == 15 ? -1 : 0);
        }
        DECODING.wrong("only the last sample is beyond", last.end(), 11, FRAME);
    }

    /** 12: "a bit up to the whole byte is 1, or check16". */
    private static void check16() {
        for (int left = 1; left <= 7; left++) {
            int depth = 16 - left;
            for (int bit = 0; bit < left; bit++) {
                Maker m = maker(0, 16, 1, depth);
                m.start().head().put(8, 0).put(depth, 5).put(left, 1 << bit);
                DECODING.firstMet("bit " + bit + " of " + left + " up to the byte", m.end(), 12, FRAME, BODY + 3);
            }
            Maker none = maker(0, 16, 1, depth);
            DECODING.right(left + " bits up to the byte", none.start().head().put(8, 0).put(depth, 5).end(), 16);
        }
        for (int bit = 0; bit < 16; bit++) {
            SoundStream x = new Maker().start().frameOf(3).fed();
            int at = x.told(0) - 2 + bit / 8;
            x.spoil(at, x.spoil(at, 0) ^ 1 << bit % 8);
            DECODING.wrong("bit " + bit + " of check16", x, 12, FRAME);
        }
        SoundStream x = new Maker().start().frameOf(3).fed();
        x.spoil(x.told(0) - 2, x.spoil(x.told(0) - 2, 0) ^ 1);
        x.cut(x.told(0) - 1);
        DECODING.wrong("half of check16", x, 13, FRAME);
        Maker sample = new Maker();
        SoundStream other = sample.start().frameOf(3).fed();
        other.spoil(other.told(0) - 3, 4);
        DECODING.wrong("another sample", other, 12, FRAME);
    }

    /** 13: "the stream ends in a frame, or (at the block's first byte) a block". */
    private static void ends() {
        Maker m = new Maker();
        m.start().frameOf(1);
        int place = m.bytes();
        DECODING.right("no byte behind the last frame", m, 16);
        DECODING.wrong("a byte behind the last frame", m.put(8, 255), 13, place);
        Maker zero = new Maker();
        zero.start().frameOf(1);
        DECODING.wrong("a byte 0 behind the last frame", zero.put(8, 0), 13, place);
        DECODING.wrong("two bytes 0 behind the last frame", zero.put(8, 0), 4, place);
        Maker block = withBlocks();
        DECODING.wrong("no last block", block, 13, 42);
        DECODING.wrong("half of a block's 32 bits", block.put(16, 0x0100), 13, 42);
        DECODING.wrong("less bytes than the length", block.put(16, 9).put(64, 0), 13, 42);
        DECODING.wrong("the next block is not there", block.put(8, 0), 13, 42 + 4 + 9);
        DECODING.wrong("a length of 1 and no byte", withBlocks().block(1, 1, 1), 13, 42);
        DECODING.right("a length of 0 and no byte", withBlocks().block(1, 1, 0), 0);
        DECODING.wrong("the greatest length", withBlocks().block(1, 1, 16777215).put(8, 0), 13, 42);
        everyCut();
    }

    /** Every beginning of a stream that is right. */
    private static void everyCut() {
        Rows rows = new Rows(2, 10, 8000).noise(0, 40, 3, 9).ramp(1, 40, 1, 2);
        SoundStream x = rows.encoded(16, true);
        byte[] all = rows.stream(16, true);
        int third = x.frame(2, 0);
        int second = x.frame(1, 0);
        for (int n = all.length - 1; n >= 0; n--) {
            SoundStream y = Maker.fed(Arrays.copyOf(all, n));
            boolean whole = n == third || n == second || n == 42;
            int fault = n < 4 ? 1 : whole ? 14 : 13;
            int place = n < 4 ? 0 : n < 42 ? 4 : whole ? n : n > third ? third : n > second ? second : 42;
            DECODING.wrong("the first " + n + " bytes", y, fault, place);
        }
    }

    /** 14: "less samples than are known". */
    private static void lessSamples() {
        for (int samples : new int[] {15, 16, 17, 1200}) {
            Maker m = new Maker();
            m.samples = samples;
            m.size = 15;
            m.start().frameOf(3);
            if (samples == 15) {
                DECODING.right("all samples that are known", m, 15);
            } else {
                DECODING.wrong("15 samples of " + samples, m, 14, 53);
            }
        }
        Maker none = new Maker();
        none.samples = 1;
        DECODING.wrong("no frame where a sample is known", none.start(), 14, 42);
        Maker both = new Maker();
        both.samples = 17;
        both.sum[3] = 1;
        DECODING.wrong("less samples come before another sum", both.start().frameOf(3), 14, 53);
        Maker after = new Maker();
        after.samples = 17;
        after.start().frameOf(3);
        SoundStream x = after.fed();
        x.spoil(52, x.spoil(52, 0) ^ 1);
        DECODING.wrong("check16 comes before less samples", x, 12, FRAME);
    }

    /** 15: "another sum". */
    private static void anotherSum() {
        for (int i = 0; i < 16; i++) {
            SoundStream x = new SoundStream();
            x.ramp(0, 100, 5, 7);
            int length = x.encode(false);
            for (int bit = 0; bit < 8; bit += 7) {
                int before = x.spoil(26 + i, 0);
                x.spoil(26 + i, before ^ 1 << bit);
                DECODING.wrong("bit " + bit + " of byte " + i + " of the sum", x, 15, length);
                x.spoil(26 + i, before);
            }
            DECODING.right("the sum as it was", x, 100);
            for (int j = 0; j < 16; j++) {
                x.spoil(26 + j, j == i ? 1 : 0);
            }
            DECODING.wrong("a sum with one byte that is not 0 is known", x, 15, length);
            x.spoil(26 + i, 0);
            DECODING.right("16 bytes 0 are not known", x, 100);
        }
        Maker unknown = new Maker();
        unknown.sum = PlainDecoder.sum(new long[1][0], 1, 0, 8);
        DECODING.wrong("the sum of none with a frame", unknown.start().frameOf(3), 15, 53);
        Maker none = new Maker();
        none.sum[0] = 1;
        DECODING.wrong("another sum than that of none", none.start(), 15, 42);
    }
}
