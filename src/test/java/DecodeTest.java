/** Promises 17 and 20, and 10 as far as it tells of decoding: streams that are right. */
public final class DecodeTest {
    private static final Check CHECK = new Check();

    public static void main(String[] args) {
        sizesAndRates();
        numbersInTwoBytes();
        informationBlocks();
        samplesWithTwoChannels();
        droppedZeros();
        factors();
        rests();
        heard();
        CHECK.end();
    }

    private static void right(String what, Maker m, int samples) {
        right(what, m.fed(), samples);
    }

    private static void right(String what, SoundStream x, int samples) {
        CHECK.due(what + ": decode()", x.decode(), samples);
        CHECK.due(what + ": fault()", x.fault(), 0);
        CHECK.due(what + ": place()", x.place(), -1);
    }

    private static void sizesAndRates() {
        int[][] sizes = {{1, 192}, {2, 576}, {3, 1152}, {6, 1}, {6, 256}, {7, 1}, {7, 257}, {7, 1200}, {8, 256}, {9, 512}, {10, 1024}};
        for (int[] e : sizes) {
            Maker m = new Maker();
            m.greatest = 1200;
            m.b = e[0];
            m.size = e[1];
            right("B " + e[0], m.start().frameOf(-5), e[1]);
        }
        for (int r = 0; r <= 14; r++) {
            Maker m = new Maker();
            m.r = r;
            right("R " + r, m.start().frameOf(5), 16);
        }
        int[][] depths = {{1, 8}, {2, 12}, {4, 16}, {5, 20}, {6, 24}, {0, 13}};
        for (int[] e : depths) {
            Maker m = new Maker();
            m.s = e[0];
            m.depth = e[1];
            right("S " + e[0], m.start().frameOf(5), 16);
        }
    }

    private static void numbersInTwoBytes() {
        Maker m = new Maker();
        m.way = 1;
        m.start();
        for (int k = 0; k < 75; k++) {
            int first = 16 * k;
            m.number = first < 128 ? new int[] {first} : new int[] {192 + first / 64, 128 + first % 64};
            m.frameOf(k);
        }
        SoundStream x = m.fed();
        right("75 frames by samples", x, 1200);
        CHECK.due("their number", x.told(7), 75);
        CHECK.due("the last of them", x.heard(0, 1199), 74);

        Maker byFrame = new Maker();
        byFrame.start();
        for (int k = 0; k < 75; k++) {
            byFrame.number = new int[] {k};
            byFrame.size = k == 74 ? 3 : 16;
            byFrame.frameOf(k);
        }
        right("75 frames by number", byFrame, 1187);

        Maker mixed = new Maker();
        mixed.way = 1;
        mixed.greatest = 300;
        mixed.start();
        int at = 0;
        for (int size : new int[] {300, 16, 17, 299, 2}) {
            mixed.b = 7;
            mixed.size = size;
            mixed.number = at < 128 ? new int[] {at} : new int[] {192 + at / 64, 128 + at % 64};
            mixed.frameOf(size % 100);
            at += size;
        }
        right("frames of many sizes", mixed, 634);
    }

    private static void informationBlocks() {
        Maker m = new Maker();
        m.onlyBlock = false;
        m.rate = 1048575;
        m.start().block(0, 1, 3).put(24, 0xffffff).block(0, 126, 0).block(1, 4, 1).put(8, 9);
        SoundStream x = m.frameOf(7).fed();
        right("other blocks", x, 16);
        CHECK.due("the highest rate", x.told(5), 1048575);
        CHECK.due("no sum", x.told(8), 0);

        Maker none = new Maker();
        none.greatest = 65535;
        none.depth = 4;
        SoundStream y = none.start().fed();
        right("no frames", y, 0);
        CHECK.due("the greatest block", y.told(4), 65535);
        CHECK.due("no frames", y.told(7), 0);
        CHECK.throwsIndexOutOfBounds("nothing is heard", () -> y.heard(0, 0));

        Maker summed = new Maker();
        summed.samples = 16;
        summed.sum = PlainDecoder.sum(new long[][] {{7, 7, 7, 7, 7, 7, 7, 7, 7, 7, 7, 7, 7, 7, 7, 7}}, 1, 16, 8);
        SoundStream z = summed.start().frameOf(7).fed();
        right("samples and sum are known", z, 16);
        CHECK.due("the sum is known", z.told(8), 1);
    }

    private static void samplesWithTwoChannels() {
        // C, the values in both subframes, and the samples of both channels
        int[][] rows = {
            {1, -128, 127, -128, 127}, {8, -128, -255, -128, 127}, {8, 127, 255, 127, -128}, {9, 255, -128, 127, -128},
            {9, -255, 127, -128, 127}, {10, -1, 255, 127, -128}, {10, -1, -255, -128, 127}, {10, 5, 3, 7, 4},
            {10, 5, -3, 4, 7}, {10, -5, 4, -3, -7}, {10, -128, 0, -128, -128}
        };
        for (int[] e : rows) {
            Maker m = new Maker();
            m.channels = 2;
            m.c = e[0];
            m.start().head();
            m.constant(e[0] == 9 ? 9 : 8, e[1]).constant(e[0] == 8 || e[0] == 10 ? 9 : 8, e[2]);
            SoundStream x = m.end().fed();
            String what = "C " + java.util.Arrays.toString(e);
            right(what, x, 16);
            CHECK.due(what + " first", x.heard(0, 15), e[3]);
            CHECK.due(what + " second", x.heard(1, 0), e[4]);
        }
    }

    private static void droppedZeros() {
        Maker m = new Maker();
        m.start().head();
        m.put(8, 1).put(7, 1).put(1, -1);
        SoundStream x = m.end().fed();
        right("w 7 of 8 bits", x, 16);
        CHECK.due("the lowest sample", x.heard(0, 3), -128);

        Maker plain = new Maker();
        plain.start().head();
        plain.put(8, 3).put(1, 1);
        for (int i = 0; i < 16; i++) {
            plain.put(7, i - 9);
        }
        SoundStream y = plain.end().fed();
        right("type 1 with w 1", y, 16);
        CHECK.due("twice what stands there", y.heard(0, 2), -14);

        Maker predicted = new Maker();
        predicted.size = 4;
        predicted.start().head();
        // type 9 with w 2: prediction is by the smaller samples
        predicted.put(8, 19).put(2, 1).put(6, 5).put(2, 0).put(4, 0).put(4, 1);
        predicted.put(new Bits().rest(1, 1).rest(1, -3).rest(1, 0));
        SoundStream z = predicted.end().fed();
        right("type 9 with w 2", z, 4);
        int[] due = {20, 24, 12, 12};
        for (int i = 0; i < 4; i++) {
            CHECK.due("type 9 with w 2, sample " + i, z.heard(0, i), due[i]);
        }
    }

    private static void factors() {
        Maker m = new Maker();
        m.size = 5;
        m.start().head();
        // order 2, p 5, h 1: (3 x - 2 y) by 2, rounded down
        m.put(8, 66).put(8, 7).put(8, -4).put(4, 4).put(5, 1).put(5, 3).put(5, -2);
        m.put(2, 0).put(4, 0).put(4, 0).put(new Bits().rest(0, 0).rest(0, 1).rest(0, -1));
        SoundStream x = m.end().fed();
        right("factors", x, 5);
        int[] due = {7, -4, -13, -15, -11};
        for (int i = 0; i < 5; i++) {
            CHECK.due("factors, sample " + i, x.heard(0, i), due[i]);
        }

        Maker most = new Maker();
        most.greatest = 40;
        most.size = 40;
        most.start().head();
        // order 32, p 15, h 15: the lowest factor for the oldest sample alone
        most.put(8, 126);
        for (int i = 0; i < 32; i++) {
            most.put(8, i);
        }
        most.put(4, 14).put(5, 15);
        for (int j = 0; j < 32; j++) {
            most.put(15, j == 31 ? -16384 : 0);
        }
        most.put(2, 0).put(4, 0).put(4, 15).put(5, 0);
        SoundStream y = most.end().fed();
        right("order 32", y, 40);
        int[] half = {0, -1, -1, -2, -2, -3, -3, -4};
        for (int i = 0; i < 8; i++) {
            CHECK.due("order 32, sample " + (32 + i), y.heard(0, 32 + i), half[i]);
        }

        Maker full = new Maker();
        full.size = 4;
        full.start().head();
        // as many first samples as there are: no rest, but the k of its one part
        full.put(8, 24).put(8, 1).put(8, 2).put(8, 3).put(8, 4).put(2, 1).put(4, 0).put(5, 30);
        SoundStream z = full.end().fed();
        right("order 4 of 4 samples", z, 4);
        CHECK.due("order 4 of 4 samples, the last", z.heard(0, 3), 4);
    }

    private static void rests() {
        Maker m = new Maker();
        m.start().head();
        // 8 parts of 2, k of 4 bits and escapes, order 2: the first part is empty
        m.put(8, 20).put(8, 1).put(8, 2).put(2, 0).put(4, 3);
        m.put(4, 15).put(5, 31);
        m.put(4, 15).put(5, 0);
        m.put(4, 14).put(new Bits().rest(14, -1).rest(14, 1));
        m.put(4, 15).put(5, 31).put(31, 5).put(31, -5);
        m.put(4, 15).put(5, 1).put(1, -1).put(1, 0);
        for (int part = 5; part < 8; part++) {
            m.put(4, 0).put(new Bits().rest(0, 0).rest(0, 0));
        }
        SoundStream x = m.end().fed();
        right("8 parts", x, 16);
        int[] due = {1, 2, 3, 4, 4, 5, 11, 12, 12, 12, 12, 12, 12, 12, 12, 12};
        for (int i = 0; i < 16; i++) {
            CHECK.due("8 parts, sample " + i, x.heard(0, i), due[i]);
        }

        Maker wide = new Maker();
        wide.depth = 24;
        wide.size = 4;
        wide.start().head();
        // k of 5 bits: 30, 15 and an escape; v next to 2^32 with a prediction that takes it back
        wide.put(8, 64).put(24, -8388608).put(4, 14).put(5, 0).put(15, -256);
        wide.put(2, 1).put(4, 0).put(5, 30).put(new Bits().rest(30, -2147483648L).rest(30, 0).rest(30, 5));
        SoundStream y = wide.end().fed();
        right("v 2^32 - 1", y, 4);
        CHECK.due("v 2^32 - 1, sample 1", y.heard(0, 1), 0);
        CHECK.due("v 2^32 - 1, sample 3", y.heard(0, 3), 5);

        Maker fifteen = new Maker();
        fifteen.size = 2;
        fifteen.start().head();
        fifteen.put(8, 16).put(2, 1).put(4, 1).put(5, 15).put(new Bits().rest(15, -100)).put(5, 31).put(5, 8).put(8, 99);
        SoundStream z = fifteen.end().fed();
        right("k 15 of 5 bits", z, 2);
        CHECK.due("k 15 of 5 bits, sample 0", z.heard(0, 0), -100);
        CHECK.due("k 31 of 5 bits, sample 1", z.heard(0, 1), 99);
    }

    private static void heard() {
        SoundStream x = new SoundStream();
        x.form(2, 16, 16, 1);
        x.ramp(0, 20, 5, 3);
        x.ramp(1, 20, -5, -3);
        x.encode(true);
        CHECK.throwsIndexOutOfBounds("nothing was decoded", () -> x.heard(0, 0));
        x.decode();
        CHECK.due("heard(0, 19)", x.heard(0, 19), 62);
        CHECK.due("heard(1, 19)", x.heard(1, 19), -62);
        CHECK.throwsIndexOutOfBounds("heard(0, 20)", () -> x.heard(0, 20));
        CHECK.throwsIndexOutOfBounds("heard(1, -1)", () -> x.heard(1, -1));
        CHECK.throwsIllegalArgument("heard(2, 0)", () -> x.heard(2, 0));
        CHECK.throwsIllegalArgument("heard(-1, 99): the channel comes first", () -> x.heard(-1, 99));
        x.clear();
        x.form(1, 8, 16, 1);
        x.cut(3);
        CHECK.due("other calls leave it", x.heard(1, 0), -5);
        CHECK.due("and the fault", x.fault(), 0);
        x.decode();
        CHECK.throwsIndexOutOfBounds("heard(0, 0) behind a fault", () -> x.heard(0, 0));
        CHECK.throwsIndexOutOfBounds("heard(1, 0) behind a fault", () -> x.heard(1, 0));
        x.sample(0, 9);
        x.encode(false);
        CHECK.due("the fault stays until decode()", x.fault(), 1);
        CHECK.due("and its place", x.place(), 0);
        x.decode();
        CHECK.due("one channel", x.heard(0, 0), 9);
        CHECK.throwsIndexOutOfBounds("no second one", () -> x.heard(1, 0));
        CHECK.due("no fault", x.fault(), 0);
        CHECK.due("no place", x.place(), -1);
    }
}
