/**
 * Promise 9: "The stream becomes that of the rows, with V 1 if v is true. Answers how many bytes it has."
 * Here: the information, the heads of frames and where they begin, against streams that are made by hand.
 */
public final class Promise09EncodeTest {
    private static final Check CHECK = new Check();
    private static final Refusals REFUSALS = new Refusals(CHECK);

    public static void main(String[] args) {
        emptyRows();
        information();
        sizesOfFrames();
        lastFrame();
        sizeInOneByteOrTwo();
        numberInOneByteOrTwo();
        bitsUpToAWholeByte();
        fullRows();
        anotherStreamBefore();
        rowsNotAlike();
        CHECK.end();
    }

    private static void sameBytes(String what, SoundStream x, byte[] due) {
        CHECK.due(what + ": told(0)", x.told(0), due.length);
        byte[] padded = java.util.Arrays.copyOf(due, due.length + 8);
        for (int i = 0; i < due.length; i += 8) {
            CHECK.due(what + ": bytes from " + i, x.stream(i), java.nio.ByteBuffer.wrap(padded, i, 8).order(java.nio.ByteOrder.LITTLE_ENDIAN).getLong());
        }
    }

    /** "Of empty rows 0 samples and the SUM of none", and 0 as the sizes of frames. */
    private static void emptyRows() {
        int[][] forms = {{1, 16, 64, 8000}, {1, 4, 16, 1}, {2, 24, 1024, 655350}};
        for (int[] e : forms) {
            for (int way = 0; way < 2; way++) {
                SoundStream x = new SoundStream();
                x.form(e[0], e[1], e[2], e[3]);
                CHECK.due("encode() of empty rows", x.encode(way == 1), 42);
                Maker m = new Maker();
                m.channels = e[0];
                m.depth = e[1];
                m.least = e[2];
                m.greatest = e[2];
                m.rate = e[3];
                m.sum = PlainDecoder.sum(new long[2][0], e[0], 0, e[1]);
                sameBytes("empty rows", x, m.start().out.bytes());
                CHECK.due("decode() of empty rows", x.decode(), 0);
            }
        }
    }

    /** Rows of a constant, whose frames are known by heart. */
    private static Maker constant(SoundStream x, int block, int samples, int v) {
        x.form(1, 8, block, 1);
        x.ramp(0, samples, v, 0);
        Maker m = new Maker();
        m.rate = 1;
        m.least = block;
        m.greatest = block;
        m.samples = samples;
        long[][] rows = new long[1][samples];
        java.util.Arrays.fill(rows[0], v);
        m.sum = PlainDecoder.sum(rows, 1, samples, 8);
        return m;
    }

    /** A head of so many bytes with check8, a subframe of type 0, check16. */
    private static int bytesOf(int head) {
        return head + 2 + 2;
    }

    private static void information() {
        SoundStream x = new SoundStream();
        Maker m = constant(x, 16, 1, 127);
        m.size = 1;
        m.leastFrame = bytesOf(7);
        m.greatestFrame = bytesOf(7);
        CHECK.due("encode() of one sample", x.encode(false), 42 + 11);
        sameBytes("one sample", x, m.start().frameOf(127).out.bytes());
        SoundStream y = new SoundStream();
        Maker n = constant(y, 1024, 1, -127);
        n.size = 1;
        n.way = 1;
        n.leastFrame = bytesOf(7);
        n.greatestFrame = bytesOf(7);
        CHECK.due("encode(true) of one sample", y.encode(true), 42 + 11);
        sameBytes("one sample, V 1", y, n.start().frameOf(-127).out.bytes());
    }

    private static void sizesOfFrames() {
        SoundStream x = new SoundStream();
        x.form(1, 8, 16, 1);
        x.ramp(0, 16, 1, 0);
        x.noise(0, 16, 1, 8);
        x.ramp(0, 16, 1, 1);
        x.noise(0, 3, 1, 8);
        x.encode(false);
        int least = Integer.MAX_VALUE;
        int greatest = 0;
        for (int k = 0; k < 4; k++) {
            least = Math.min(least, x.frame(k, 1));
            greatest = Math.max(greatest, x.frame(k, 1));
        }
        CHECK.due("the least frame is the first", least, x.frame(0, 1));
        CHECK.due("the greatest frame is the second", greatest, x.frame(1, 1));
        CHECK.due("the least number of bytes", bigEndian(x, 12, 3), least);
        CHECK.due("the greatest number of bytes", bigEndian(x, 15, 3), greatest);
        x.clear();
        x.noise(0, 16, 1, 8);
        x.ramp(0, 16, 1, 0);
        x.encode(false);
        CHECK.due("the least one last", bigEndian(x, 12, 3), x.frame(1, 1));
        CHECK.due("the greatest one first", bigEndian(x, 15, 3), x.frame(0, 1));
        x.form(2, 24, 1024, 1);
        x.noise(0, 1024, 1, 24);
        x.noise(1, 1024, 2, 24);
        x.encode(false);
        CHECK.due("a size that takes two bytes", bigEndian(x, 15, 3), x.frame(0, 1));
    }

    private static long bigEndian(SoundStream x, int from, int n) {
        long v = 0;
        for (int i = 0; i < n; i++) {
            v = v << 8 | x.stream(from + i) & 255;
        }
        return v;
    }

    /** "Frames with a block of samples each, the last one with those that are left." */
    private static void lastFrame() {
        for (int samples : new int[] {1, 15, 16, 17, 31, 32, 33}) {
            SoundStream x = new SoundStream();
            Maker m = constant(x, 16, samples, 5);
            m.leastFrame = bytesOf(7);
            m.greatestFrame = bytesOf(7);
            m.start();
            int frames = (samples + 15) / 16;
            for (int k = 0; k < frames; k++) {
                m.number = new int[] {k};
                m.size = Math.min(16, samples - 16 * k);
                m.frameOf(5);
            }
            CHECK.due("encode() of " + samples, x.encode(false), m.bytes());
            sameBytes(samples + " samples", x, m.out.bytes());
            CHECK.due("frames of " + samples, x.told(1), frames);
        }
    }

    /** "B = 6 up to 256 samples, else 7." */
    private static void sizeInOneByteOrTwo() {
        for (int samples : new int[] {255, 256, 257, 1024}) {
            SoundStream x = new SoundStream();
            Maker m = constant(x, 1024, samples, 5);
            m.size = samples;
            m.b = samples <= 256 ? 6 : 7;
            m.leastFrame = bytesOf(samples <= 256 ? 7 : 8);
            m.greatestFrame = m.leastFrame;
            CHECK.due("encode() of " + samples, x.encode(false), 42 + m.leastFrame);
            sameBytes("a frame of " + samples, x, m.start().frameOf(5).out.bytes());
        }
        SoundStream x = new SoundStream();
        Maker m = constant(x, 257, 257 + 256, 5);
        m.leastFrame = bytesOf(7);
        m.greatestFrame = bytesOf(8);
        m.b = 7;
        m.size = 257;
        m.start().frameOf(5);
        m.b = 6;
        m.size = 256;
        m.number = new int[] {1};
        x.encode(false);
        sameBytes("257 and 256", x, m.frameOf(5).out.bytes());
    }

    /** "Below 128 a byte, else in the fewest bytes": 127 and 128 are the edge. */
    private static void numberInOneByteOrTwo() {
        int[][] blocks = {{16, 144}, {16, 1200}, {127, 381}, {128, 384}, {63, 1200}, {1024, 1200}, {1023, 1200}};
        for (int[] e : blocks) {
            for (int way = 0; way < 2; way++) {
                SoundStream x = new SoundStream();
                Maker m = constant(x, e[0], e[1], -3);
                m.way = way;
                Maker told = constant(new SoundStream(), e[0], e[1], -3);
                told.way = way;
                frames(told, e[0], e[1]);
                m.leastFrame = told.leastFrame;
                m.greatestFrame = told.greatestFrame;
                m.start();
                frames(m, e[0], e[1]);
                x.encode(way == 1);
                sameBytes("blocks of " + e[0] + ", V " + way, x, m.out.bytes());
            }
        }
    }

    private static void frames(Maker m, int block, int samples) {
        m.leastFrame = Integer.MAX_VALUE;
        m.greatestFrame = 0;
        for (int k = 0; k * block < samples; k++) {
            int number = m.way == 1 ? k * block : k;
            m.number = number < 128 ? new int[] {number} : new int[] {192 + number / 64, 128 + number % 64};
            m.size = Math.min(block, samples - k * block);
            m.b = m.size <= 256 ? 6 : 7;
            int before = m.bytes();
            m.frameOf(-3);
            m.leastFrame = Math.min(m.leastFrame, m.bytes() - before);
            m.greatestFrame = Math.max(m.greatestFrame, m.bytes() - before);
        }
    }

    /** "Bits 0 up to a whole byte": none, one and seven of them. */
    private static void bitsUpToAWholeByte() {
        for (int depth = 4; depth <= 24; depth++) {
            SoundStream x = new SoundStream();
            x.form(1, depth, 16, 1);
            x.ramp(0, 16, -1, 0);
            x.encode(false);
            int bits = 8 + depth;
            CHECK.due("bits of a constant of " + depth, x.frame(0, 5), bits);
            CHECK.due("bytes of its frame", x.frame(0, 1), 7 + (bits + 7) / 8 + 2);
            int left = (8 - bits % 8) % 8;
            CHECK.due("the byte before check16", x.stream(x.told(0) - 3) & 255, 255 & (255 << left));
        }
    }

    /** The longest streams that rows can give stay within what a stream can hold. */
    private static void fullRows() {
        for (int block : new int[] {16, 17, 255, 256, 257, 1024}) {
            for (int way = 0; way < 2; way++) {
                SoundStream x = new SoundStream();
                x.form(2, 24, block, 655350);
                x.noise(0, 1200, 99, 24);
                x.noise(1, 1200, 7, 24);
                int length = x.encode(way == 1);
                CHECK.due("a stream of at most 9000", length <= 9000 ? 1 : 0, 1);
                CHECK.due("no type takes less than the samples themselves", x.frame(0, 3), 1);
                CHECK.due("frames", x.told(1), (1200 + block - 1) / block);
                CHECK.due("decode()", x.decode(), 1200);
                for (int i = 0; i < 1200; i += 60) {
                    CHECK.due("heard(0, " + i + ")", x.heard(0, i), x.at(0, i));
                    CHECK.due("heard(1, " + i + ")", x.heard(1, i), x.at(1, i));
                }
            }
        }
    }

    private static void anotherStreamBefore() {
        SoundStream x = Recipes.fullStream();
        x.clear();
        x.sample(0, 5);
        x.sample(1, 5);
        int length = x.encode(false);
        SoundStream fresh = new SoundStream();
        fresh.form(2, 24, 16, 1);
        fresh.sample(0, 5);
        fresh.sample(1, 5);
        CHECK.due("as long as that of a new object", length, fresh.encode(false));
        for (int i = 0; i < length + 8; i += 8) {
            CHECK.due("its bytes from " + i, x.stream(i), fresh.stream(i));
        }
        CHECK.due("twice the same", x.encode(false), length);
        x.feed(3, 1);
        CHECK.due("fed bytes are not kept", x.encode(false), length);
        CHECK.due("decode()", x.decode(), 1);
        for (Recipes.Recipe recipe : Recipes.ALL) {
            oneBehindAnother(recipe.make());
        }
    }

    /** Nothing of what was encoded before lasts: no bytes, no frames, no sizes of frames. */
    private static void oneBehindAnother(SoundStream x) {
        x.form(2, 9, 20, 77);
        for (int samples : new int[] {0, 41, 0, 20}) {
            SoundStream fresh = new SoundStream();
            fresh.form(2, 9, 20, 77);
            x.clear();
            for (SoundStream each : new SoundStream[] {x, fresh}) {
                each.noise(0, samples, 3, 8);
                each.ramp(1, samples, 3, 8);
            }
            int length = fresh.encode(true);
            CHECK.due("encode() behind another one", x.encode(true), length);
            CHECK.due("frames", x.told(1), fresh.told(1));
            for (int i = 0; i < length; i += 8) {
                CHECK.due("bytes from " + i + " behind another one", x.stream(i), fresh.stream(i));
            }
        }
    }

    private static void rowsNotAlike() {
        for (int way = 0; way < 2; way++) {
            boolean v = way == 1;
            REFUSALS.refused("encode() of uneven rows", IllegalStateException.class, Recipes::unevenRows, x -> x.encode(v));
            REFUSALS.refused("encode() of none and one", IllegalStateException.class, Promise09EncodeTest::noneAndOne, x -> x.encode(v));
            REFUSALS.refused("encode() of 1200 and 1199", IllegalStateException.class, Promise09EncodeTest::fullAndLess, x -> x.encode(v));
        }
    }

    private static SoundStream noneAndOne() {
        SoundStream x = Recipes.twoChannels();
        x.clear();
        x.sample(1, 1);
        return x;
    }

    private static SoundStream fullAndLess() {
        SoundStream x = Recipes.twoChannels();
        x.ramp(0, 1159, 1, 1);
        x.ramp(1, 1158, 1, 1);
        return x;
    }
}
