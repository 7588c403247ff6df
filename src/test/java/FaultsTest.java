/** Promises 17 to 19: every fault, its place, and which one is met first. */
public final class FaultsTest {
    private static final Check CHECK = new Check();
    private static final int FRAME = 42;

    public static void main(String[] args) {
        start();
        blocks();
        information();
        frameStart();
        frameCodes();
        numbers();
        sizes();
        checks();
        subframes();
        predictions();
        ranges();
        ends();
        everyCut();
        theEnd();
        CHECK.end();
    }

    private static void wrong(String what, SoundStream x, int fault, int place) {
        CHECK.due(what + ": decode()", x.decode(), -1);
        CHECK.due(what + ": fault()", x.fault(), fault);
        CHECK.due(what + ": place()", x.place(), place);
        CHECK.due(what + ": told(2)", x.told(2), -1);
        CHECK.throwsIndexOutOfBounds(what + ": heard(0, 0)", () -> x.heard(0, 0));
    }

    private static void wrong(String what, Maker m, int fault, int place) {
        wrong(what, m.fed(), fault, place);
    }

    private static Maker maker(int way, int greatest, int channels, int depth) {
        Maker m = new Maker();
        m.way = way;
        m.greatest = greatest;
        m.channels = channels;
        m.depth = depth;
        m.c = channels - 1;
        return m;
    }

    private static void start() {
        wrong("no bytes", new SoundStream(), 1, 0);
        for (int i = 0; i < 4; i++) {
            SoundStream x = new Maker().start().fed();
            x.spoil(i, 1);
            wrong("byte " + i, x, 1, 0);
            SoundStream y = new Maker().start().fed();
            y.cut(i);
            wrong(i + " bytes", y, 1, 0);
        }
        SoundStream x = new Maker().start().fed();
        x.cut(4);
        wrong("four bytes", x, 13, 4);
    }

    private static void blocks() {
        SoundStream x = new Maker().start().fed();
        x.spoil(4, 129);
        wrong("the first block of type 1", x, 2, 4);
        x.spoil(4, 128);
        x.spoil(7, 33);
        wrong("33 bytes", x, 2, 4);
        x.spoil(7, 35);
        wrong("35 bytes, and so many are not there", x, 2, 4);
        x.cut(7);
        wrong("less than 32 bits", x, 13, 4);
        int[][] others = {{0, 2}, {127, 2}, {1, 0}, {126, 0}};
        for (int[] e : others) {
            Maker m = new Maker();
            m.onlyBlock = false;
            m.start().block(0, 2, 5).put(40, 0).block(1, e[0], 1).put(8, 0);
            if (e[1] == 0) {
                CHECK.due("a block of type " + e[0], m.fed().decode(), 0);
            } else {
                wrong("a block of type " + e[0], m, e[1], 51);
            }
        }
        Maker m = new Maker();
        m.onlyBlock = false;
        m.start();
        wrong("no last block", m, 13, 42);
        wrong("half of a block's 32 bits", m.put(16, 0x0100), 13, 42);
        m.put(16, 9).put(64, 0);
        wrong("less bytes than the block's length", m, 13, 42);
        wrong("the next block is not there", m.put(8, 0), 13, 42 + 4 + 9);
        Maker type = new Maker();
        type.onlyBlock = false;
        wrong("the type before the length", type.start().block(1, 127, 99), 2, 42);
        Maker longest = new Maker();
        longest.onlyBlock = false;
        wrong("the greatest length", longest.start().block(1, 1, 16777215).put(8, 0), 13, 42);
    }

    private static void information() {
        int[][] wrong = {
            {15, 16, 1, 1, 8, 0}, {0, 16, 1, 1, 8, 0}, {17, 16, 1, 1, 8, 0}, {16, 16, 0, 1, 8, 0}, {16, 16, 1, 3, 8, 0},
            {16, 16, 1, 8, 8, 0}, {16, 16, 1, 1, 3, 0}, {16, 16, 1, 1, 25, 0}, {16, 16, 1, 1, 32, 0}, {16, 16, 1, 1, 8, 1201}
        };
        for (int[] e : wrong) {
            wrong("information " + java.util.Arrays.toString(e), informed(e), 3, 8);
        }
        int[][] right = {{16, 16, 1, 1, 4, 0}, {65535, 65535, 1048575, 2, 24, 0}, {16, 17, 1, 1, 8, 0}};
        for (int[] e : right) {
            CHECK.due("information " + java.util.Arrays.toString(e), informed(e).fed().decode(), 0);
        }
        wrong("1200 samples that do not come", informed(new int[] {16, 16, 1, 1, 8, 1200}), 14, 42);
        Maker most = new Maker();
        most.samples = 1L << 35;
        wrong("2^35 samples", most.start(), 3, 8);
        SoundStream x = informed(wrong[0]).fed();
        x.cut(41);
        wrong("the information ends before it is looked at", x, 13, 4);
    }

    private static Maker informed(int[] e) {
        Maker m = new Maker();
        m.least = e[0];
        m.greatest = e[1];
        m.rate = e[2];
        m.channels = e[3];
        m.depth = e[4];
        m.samples = e[5];
        return m.start();
    }

    private static void frameStart() {
        for (int bit = 0; bit < 14; bit++) {
            Maker m = new Maker();
            m.sync = 16382 ^ 1 << bit;
            wrong("bit " + bit + " of the fourteen", m.start().frameOf(0), 4, FRAME);
        }
        Maker next = new Maker();
        next.bit15 = 1;
        wrong("the fifteenth bit", next.start().frameOf(0), 4, FRAME);
        for (int way = 0; way < 2; way++) {
            Maker m = new Maker();
            m.way = way;
            m.start().frameOf(0);
            int place = m.bytes();
            m.way = 1 - way;
            m.number = new int[] {way == 0 ? 16 : 1};
            wrong("another V", m.frameOf(0), 4, place);
        }
        wrong("one byte of a frame", new Maker().start().put(8, 0), 13, FRAME);
        wrong("two bytes of a frame", new Maker().start().put(16, 0), 4, FRAME);
    }

    private static void frameCodes() {
        // channels, depth, B, R, C, S, the bit behind
        int[][] wrong = {
            {1, 8, 0, 0, 0, 0, 0}, {1, 8, 6, 15, 0, 0, 0}, {1, 8, 6, 0, 1, 0, 0}, {2, 8, 6, 0, 0, 0, 0}, {2, 8, 6, 0, 2, 0, 0},
            {2, 8, 6, 0, 7, 0, 0}, {1, 8, 6, 0, 8, 0, 0}, {1, 8, 6, 0, 9, 0, 0}, {1, 8, 6, 0, 10, 0, 0}, {2, 8, 6, 0, 11, 0, 0},
            {2, 8, 6, 0, 15, 0, 0}, {1, 8, 6, 0, 0, 3, 0}, {1, 8, 6, 0, 0, 7, 0}, {1, 8, 6, 0, 0, 2, 0}, {1, 9, 6, 0, 0, 1, 0},
            {1, 12, 6, 0, 0, 4, 0}, {1, 16, 6, 0, 0, 5, 0}, {1, 20, 6, 0, 0, 6, 0}, {1, 24, 6, 0, 0, 1, 0}, {1, 8, 6, 0, 0, 0, 1}
        };
        for (int[] e : wrong) {
            Maker m = maker(0, 16, e[0], e[1]);
            m.b = e[2];
            m.r = e[3];
            m.c = e[4];
            m.s = e[5];
            m.bit32 = e[6];
            // a wrong number, too: it comes later
            m.number = new int[] {99};
            wrong("codes " + java.util.Arrays.toString(e), m.start().headOnly(), 5, FRAME);
        }
        wrong("three bytes of a frame", new Maker().start().put(16, 65528).put(8, 0x60), 13, FRAME);
    }

    private static void numbers() {
        Maker first = new Maker();
        first.number = new int[] {1};
        wrong("the first frame's number", first.start().headOnly(), 6, FRAME);
        Maker longer = new Maker();
        longer.number = new int[] {192, 128};
        wrong("0 in two bytes", longer.start().frameOf(0), 6, FRAME);
        wrong("no number", new Maker().start().put(32, 0xfff86000L), 13, FRAME);
        Maker by = maker(1, 128, 1, 8);
        by.size = 128;
        by.start().frameOf(0);
        int place = by.bytes();
        byte[] before = by.out.bytes();
        int[][] numbers = {{128}, {1}, {194}, {193, 128}, {194, 129}, {194, 0}, {194, 192}, {224, 130, 128}};
        for (int[] number : numbers) {
            Maker m = maker(1, 128, 1, 8);
            m.size = 128;
            m.start().frameOf(0);
            m.number = number;
            int fault = number.length == 1 && number[0] == 194 ? 13 : 6;
            m.b = fault == 13 ? 1 : 6;
            wrong("number " + java.util.Arrays.toString(number), m.headOnly(), fault, place);
        }
        by.number = new int[] {194, 128};
        CHECK.due("number 128", by.frameOf(0).fed().decode(), 256);
        CHECK.due("the first frame alone", Maker.fed(before).decode(), 128);
    }

    private static void sizes() {
        Maker above = new Maker();
        above.size = 17;
        wrong("above the greatest", above.start().headOnly(), 7, FRAME);
        Maker table = maker(0, 1151, 1, 8);
        table.b = 3;
        wrong("1152 above 1151", table.start().headOnly(), 7, FRAME);
        Maker largest = maker(0, 65535, 1, 8);
        largest.b = 7;
        largest.size = 65536;
        wrong("65536", largest.start().headOnly(), 7, FRAME);
        largest = maker(0, 65535, 1, 8);
        largest.b = 15;
        wrong("32768", largest.start().headOnly(), 7, FRAME);
        Maker more = maker(0, 65535, 1, 8);
        more.b = 7;
        more.size = 1201;
        wrong("1201", more.start().headOnly(), 7, FRAME);
        Maker known = new Maker();
        known.samples = 15;
        wrong("more than are known", known.start().headOnly(), 7, FRAME);
        Maker cut = new Maker();
        cut.size = 17;
        cut.r = 13;
        byte[] all = cut.start().headOnly().out.bytes();
        wrong("the size is looked at behind the rate", Maker.fed(java.util.Arrays.copyOf(all, all.length - 1)), 13, FRAME);
        before(0, 15, 16, 20, 7);
        before(0, 19, 16, 20, 7);
        before(0, 20, 16, 20, 0);
        before(1, 15, 16, 20, 7);
        before(1, 16, 16, 20, 0);
        total();
    }

    /** A frame of some size, and another one behind it. */
    private static void before(int way, int size, int least, int greatest, int fault) {
        Maker m = maker(way, greatest, 1, 8);
        m.least = least;
        m.size = size;
        m.start().frameOf(0);
        int place = m.bytes();
        m.size = 1;
        m.number = new int[] {way == 0 ? 1 : size};
        m.frameOf(1);
        if (fault == 0) {
            CHECK.due("a frame behind " + size, m.fed().decode(), size + 1);
        } else {
            wrong("a frame behind " + size, m, fault, place);
        }
    }

    private static void total() {
        for (int samples : new int[] {0, 1200, 1199}) {
            Maker m = maker(1, 600, 1, 8);
            m.samples = samples;
            m.b = 7;
            m.size = 600;
            m.start().frameOf(0);
            m.number = new int[] {192 + 600 / 64, 128 + 600 % 64};
            int place = m.bytes();
            m.frameOf(0);
            if (samples == 1199) {
                wrong("one more than 1199", m, 7, place);
                continue;
            }
            CHECK.due("1200 samples", m.fed().decode(), 1200);
            place = m.bytes();
            m.number = new int[] {192 + 1200 / 64, 128 + 1200 % 64};
            m.size = 1;
            wrong("one more than 1200", m.headOnly(), 7, place);
        }
    }

    private static void checks() {
        SoundStream x = new Maker().start().frameOf(3).fed();
        int length = x.told(0);
        // 42 .. 45 codes, 46 number, 47 size, 48 check8, 49 lead, 50 sample, 51 and 52 check16
        x.spoil(48, x.spoil(48, 0) ^ 1);
        wrong("check8", x, 8, FRAME);
        x.cut(48);
        wrong("check8 is not there", x, 13, FRAME);
        for (int i = length - 2; i < length; i++) {
            SoundStream y = new Maker().start().frameOf(3).fed();
            y.spoil(i, y.spoil(i, 0) ^ 128);
            wrong("check16, byte " + i, y, 12, FRAME);
        }
        SoundStream z = new Maker().start().frameOf(3).fed();
        z.cut(length - 1);
        wrong("half of check16", z, 13, FRAME);
        for (int bit = 0; bit < 4; bit++) {
            Maker m = maker(0, 16, 1, 12);
            m.start().head().put(8, 0).put(12, 5).put(4, 1 << bit);
            wrong("bit " + bit + " up to the byte", m.end(), 12, FRAME);
            Maker alone = maker(0, 16, 1, 12);
            wrong("bit " + bit + " before check16", alone.start().head().put(8, 0).put(12, 5).put(4, 1 << bit), 12, FRAME);
        }
        Maker second = new Maker();
        second.start().frameOf(1);
        int place = second.bytes();
        second.number = new int[] {1};
        SoundStream two = second.frameOf(2).fed();
        two.spoil(two.told(0) - 1, two.spoil(two.told(0) - 1, 0) ^ 1);
        wrong("check16 of the second frame", two, 12, place);
    }

    private static void subframes() {
        for (int type = 0; type < 64; type++) {
            boolean good = type <= 1 || (type >= 8 && type <= 12) || type >= 32;
            Maker m = maker(0, 32, 1, 8);
            m.size = 32;
            wrong("type " + type, m.start().head().put(8, type << 1), good ? 13 : 9, FRAME);
        }
        wrong("the first bit", new Maker().start().head().put(8, 128), 9, FRAME);
        wrong("no subframe", new Maker().start().head(), 13, FRAME);
        // 8 bits: seven zeros leave nothing, whatever follows
        wrong("w 8", new Maker().start().head().put(8, 1).put(8, 1), 9, FRAME);
        wrong("no 1", new Maker().start().head().put(8, 1).put(8, 0), 9, FRAME);
        Maker seven = new Maker();
        CHECK.due("w 7", seven.start().head().put(8, 1).put(7, 1).put(1, 0).end().fed().decode(), 16);
        Maker nine = maker(0, 16, 1, 9);
        wrong("eight zeros of 9 bits are enough to see it", nine.start().head().put(8, 1).put(8, 0), 9, FRAME);
        Maker ten = maker(0, 16, 1, 10);
        wrong("eight zeros of 10 bits are not", ten.start().head().put(8, 1).put(8, 0), 13, FRAME);
        Maker difference = maker(0, 16, 2, 8);
        difference.c = 9;
        difference.start().head().put(8, 1).put(8, 1).put(1, 0).put(8, 1).put(7, 1).put(1, 0);
        CHECK.due("w 8 of a difference", difference.end().fed().decode(), 16);
        Maker both = maker(0, 16, 2, 8);
        wrong("the second one's type", both.start().head().constant(8, 1).put(8, 4), 9, FRAME);
        orders();
    }

    private static void orders() {
        for (int size = 1; size <= 32; size += 3) {
            for (int type = 8; type < 64; type++) {
                int o = type < 32 ? type - 8 : type - 31;
                if (type > 12 && type < 32) {
                    continue;
                }
                Maker m = maker(0, 32, 1, 8);
                m.size = size;
                m.start().head().put(8, type << 1);
                wrong("order " + o + " of " + size, m, o > size ? 9 : 13, FRAME);
                Maker w = maker(0, 32, 1, 8);
                w.size = size;
                w.start().head().put(8, type << 1 | 1);
                wrong("order " + o + " of " + size + " is looked at behind w", w, 13, FRAME);
            }
        }
    }

    private static void predictions() {
        Maker p = new Maker();
        wrong("p 16", p.start().head().put(8, 64).put(8, 1).put(4, 15).put(4, 0), 10, FRAME);
        Maker h = new Maker();
        wrong("h -16", h.start().head().put(8, 64).put(8, 1).put(4, 0).put(5, 16).put(7, 0), 10, FRAME);
        Maker minus = new Maker();
        wrong("h -1", minus.start().head().put(8, 64).put(8, 1).put(4, 0).put(5, 31).put(7, 0), 10, FRAME);
        Maker half = new Maker();
        wrong("h is not there", half.start().head().put(8, 64).put(8, 1).put(4, 0).put(4, 15), 13, FRAME);
        for (int two = 2; two < 4; two++) {
            Maker m = new Maker();
            wrong("two bits " + two, m.start().head().put(8, 16).put(2, two).put(6, 0), 10, FRAME);
        }
        // size, type, first samples, q, and the fault: 13 when the parts can be so
        int[][] parts = {
            {16, 8, 0, 4, 13}, {16, 8, 0, 5, 10}, {16, 8, 0, 15, 10}, {15, 8, 0, 0, 13}, {15, 8, 0, 1, 10}, {12, 8, 0, 2, 13},
            {12, 8, 0, 3, 10}, {16, 12, 4, 2, 13}, {16, 12, 4, 3, 10}, {16, 9, 1, 4, 13}, {16, 10, 2, 4, 10}, {1, 8, 0, 0, 13},
            {1, 8, 0, 1, 10}
        };
        for (int[] e : parts) {
            Maker m = new Maker();
            m.size = e[0];
            m.start().head().put(8, e[1] << 1);
            for (int i = 0; i < e[2]; i++) {
                m.put(8, 0);
            }
            wrong("parts " + java.util.Arrays.toString(e), m.put(2, 0).put(4, e[3]).put(2, 0), e[4], FRAME);
        }
    }

    private static void ranges() {
        // as soon as a sample is made: what follows is not there
        int[][] rests = {{127, 0}, {128, 11}, {-128, 0}, {-129, 11}};
        for (int[] e : rests) {
            Maker m = new Maker();
            m.size = 1;
            m.start().head().put(8, 16).put(2, 0).put(4, 0).put(4, 14).put(new Bits().rest(14, e[0]));
            if (e[1] == 0) {
                CHECK.due("sample " + e[0], m.end().fed().decode(), 1);
            } else {
                m.out.align();
                wrong("sample " + e[0], m, 11, FRAME);
            }
        }
        Maker escaped = new Maker();
        wrong("an escaped rest", escaped.start().head().put(8, 16).put(2, 0).put(4, 0).put(4, 15).put(5, 31).put(31, 128).put(2, 0), 11, FRAME);
        Maker shifted = new Maker();
        shifted.start().head().put(8, 17).put(3, 1).put(2, 0).put(4, 0).put(4, 15).put(5, 8).put(8, 16);
        shifted.out.align();
        wrong("beyond the bits that w leaves", shifted, 11, FRAME);
        Maker predicted = new Maker();
        predicted.start().head().put(8, 20).put(8, 0).put(8, 127).put(2, 0).put(4, 0).put(4, 15).put(5, 0).put(1, 0);
        wrong("predicted beyond", predicted, 11, FRAME);
        greatV();
        channels();
    }

    private static void greatV() {
        // 5 bits k 30: four zeros make 2^32, and nothing behind them is read
        Maker m = new Maker();
        m.size = 1;
        m.start().head().put(8, 16).put(2, 1).put(4, 0).put(5, 30).put(4, 0).put(1, 1);
        wrong("v 2^32", m, 11, FRAME);
        Maker open = new Maker();
        open.size = 1;
        open.start().head().put(8, 16).put(2, 1).put(4, 0).put(5, 29).put(5, 0);
        wrong("5 zeros of 8", open, 13, FRAME);
        Maker eight = new Maker();
        eight.size = 1;
        eight.start().head().put(8, 16).put(2, 1).put(4, 0).put(5, 29).put(8, 0).put(5, 0);
        wrong("8 zeros of 8", eight, 11, FRAME);
        Maker escape = new Maker();
        escape.size = 1;
        escape.start().head().put(8, 16).put(2, 0).put(4, 0).put(4, 0).put(6, 0).put(2000, 0);
        wrong("2006 zeros and the end", escape, 13, FRAME);
    }

    private static void channels() {
        // C, the values in both subframes: but for one row a channel is beyond its 8 bits
        int[][] values = {{8, -128, 1}, {8, 127, -1}, {8, 0, -128}, {9, 1, 127}, {9, -1, -128}, {10, 127, 2}, {10, -128, 1}, {10, 127, -2}};
        int[] faults = {11, 11, 11, 11, 11, 11, 0, 11};
        for (int i = 0; i < values.length; i++) {
            int[] e = values[i];
            Maker m = maker(0, 16, 2, 8);
            m.c = e[0];
            m.start().head().constant(e[0] == 9 ? 9 : 8, e[1]).constant(e[0] == 9 ? 8 : 9, e[2]);
            // seven bits up to the byte, all 1: the range comes first
            String what = "C " + java.util.Arrays.toString(e);
            if (faults[i] == 11) {
                wrong(what, m.put(7, -1), 11, FRAME);
            } else {
                CHECK.due(what, m.end().fed().decode(), 16);
            }
        }
        Maker later = maker(0, 16, 2, 8);
        later.c = 8;
        wrong("not before the second subframe", later.start().head().constant(8, -128).put(8, 4), 9, FRAME);
    }

    private static void ends() {
        Maker m = new Maker();
        m.start().frameOf(1);
        int place = m.bytes();
        wrong("a byte behind the last frame", m.put(8, 255), 13, place);
        Maker zero = new Maker();
        zero.start().frameOf(1);
        wrong("two bytes 0 behind the last frame", zero.put(16, 0), 4, place);
    }

    /** Every beginning of a stream that is right. */
    private static void everyCut() {
        SoundStream x = new SoundStream();
        x.form(2, 10, 16, 8000);
        x.noise(0, 40, 3, 9);
        x.ramp(1, 40, 1, 2);
        int length = x.encode(true);
        int third = x.frame(2, 0);
        int second = x.frame(1, 0);
        for (int n = length - 1; n >= 0; n--) {
            x.cut(n);
            CHECK.due("decode of " + n + " bytes", x.decode(), -1);
            boolean whole = n == third || n == second || n == 42;
            int fault = n < 4 ? 1 : whole ? 14 : 13;
            int place = n < 4 ? 0 : n < 42 ? 4 : whole ? n : n > third ? third : n > second ? second : 42;
            CHECK.due("fault of " + n + " bytes", x.fault(), fault);
            CHECK.due("place of " + n + " bytes", x.place(), place);
        }
    }

    private static void theEnd() {
        Maker less = new Maker();
        less.samples = 17;
        less.sum[3] = 1;
        wrong("less samples come before the sum", less.start().frameOf(3), 14, 53);
        Maker sum = new Maker();
        sum.samples = 16;
        sum.sum[15] = 1;
        wrong("another sum", sum.start().frameOf(3), 15, 53);
        for (int i = 0; i < 16; i++) {
            SoundStream x = new SoundStream();
            x.ramp(0, 100, 5, 7);
            int length = x.encode(false);
            x.spoil(26 + i, x.spoil(26 + i, 0) ^ 16);
            wrong("byte " + i + " of the sum", x, 15, length);
        }
        Maker unknown = new Maker();
        unknown.sum = PlainDecoder.sum(new long[1][0], 1, 0, 8);
        wrong("the sum of none with unknown samples", unknown.start().frameOf(3), 15, 53);
    }
}
