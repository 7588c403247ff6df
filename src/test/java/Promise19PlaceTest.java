/** Promise 19: "The place of that fault (the number of bytes for 14 and 15); NONE when there is none." */
public final class Promise19PlaceTest {
    private static final Check CHECK = new Check();
    private static final Decoding DECODING = new Decoding(CHECK);

    public static void main(String[] args) {
        noneWhenThereIsNone();
        atTheFront();
        atABlock();
        atTheInformation();
        atAFrame();
        atFramesBehindBlocks();
        atTheEnd();
        CHECK.end();
    }

    private static void noneWhenThereIsNone() {
        SoundStream x = new SoundStream();
        CHECK.due("nothing was decoded", x.place(), -1);
        x.encode(false);
        CHECK.due("nothing was decoded, but encoded", x.place(), -1);
        x.decode();
        CHECK.due("no fault", x.place(), -1);
        x.cut(41);
        CHECK.due("not before decode()", x.place(), -1);
        x.decode();
        CHECK.due("a block that ends", x.place(), 4);
        x.encode(false);
        x.feed(3, 5);
        x.clear();
        CHECK.due("until decode()", x.place(), 4);
        x.cut(42);
        x.decode();
        CHECK.due("none again", x.place(), -1);
    }

    private static void atTheFront() {
        DECODING.wrong("no bytes", new SoundStream(), 1, 0);
        SoundStream x = Recipes.oneChannel();
        x.spoil(3, 0);
        DECODING.wrong("the fourth byte", x, 1, 0);
        x.cut(3);
        DECODING.wrong("three bytes", x, 1, 0);
    }

    /** Blocks of 0, 1, 2 .. bytes behind one another; the one with the fault, and the one that ends, have the place. */
    private static void atABlock() {
        int place = 42;
        for (int before = 0; before < 8; before++) {
            Maker zero = blocks(before);
            DECODING.wrong("type 0 behind " + before, zero.block(1, 0, 3).put(24, 0), 2, place);
            Maker last = blocks(before);
            DECODING.wrong("type 127 behind " + before, last.block(0, 127, 0), 2, place);
            DECODING.wrong("no block behind " + before, blocks(before), 13, place);
            DECODING.wrong("a byte of a block behind " + before, blocks(before).put(8, 129), 13, place);
            DECODING.wrong("three bytes of a block behind " + before, blocks(before).put(24, 0), 13, place);
            DECODING.wrong("less than its bytes behind " + before, blocks(before).block(1, 5, 4).put(24, 0), 13, place);
            place += 4 + before;
        }
        SoundStream first = new Maker().start().fed();
        first.spoil(7, 35);
        DECODING.wrong("the first block", first, 2, 4);
        for (int n = 4; n < 42; n++) {
            SoundStream x = new Maker().start().fed();
            x.cut(n);
            DECODING.wrong("the first block ends at " + n, x, 13, 4);
        }
    }

    private static Maker blocks(int number) {
        Maker m = new Maker();
        m.onlyBlock = false;
        m.start();
        for (int i = 0; i < number; i++) {
            m.block(0, 1 + i, i).put(8 * i, -1);
        }
        return m;
    }

    private static void atTheInformation() {
        Maker m = new Maker();
        m.rate = 0;
        DECODING.wrong("the rate", m.start(), 3, 8);
        Maker behind = new Maker();
        behind.onlyBlock = false;
        behind.depth = 25;
        DECODING.wrong("the depth, with another block", behind.start().block(1, 1, 2).put(16, 0), 3, 8);
    }

    /** Each fault of a frame, 4 .. 13, in the first, the second and the last of five frames: the frame's first byte. */
    private static void atAFrame() {
        for (int bad = 0; bad < 5; bad++) {
            for (int fault = 4; fault <= 13; fault++) {
                Maker m = new Maker();
                m.channels = 2;
                m.c = 8;
                m.onlyBlock = true;
                m.start();
                int place = frames(m, bad, fault);
                DECODING.wrong("fault " + fault + " in frame " + bad, m, fault, place);
            }
        }
    }

    /** A frame with a fault behind so many good ones, and good ones behind it; answers where it begins. */
    private static int frames(Maker m, int bad, int fault) {
        for (int k = 0; k < bad; k++) {
            m.number = new int[] {k};
            m.frameOf(k);
        }
        int place = m.bytes();
        m.number = new int[] {bad};
        badFrame(m, fault);
        if (fault != 13) {
            m.number = new int[] {bad + 1};
            m.frameOf(1);
        }
        return place;
    }

    private static void badFrame(Maker m, int fault) {
        m.bit15 = fault == 4 ? 1 : 0;
        m.bit32 = fault == 5 ? 1 : 0;
        m.size = fault == 7 ? 17 : 16;
        if (fault == 6) {
            m.number = new int[] {99};
        }
        if (fault == 8) {
            m.headWithAnotherCheck().put(40, 0);
        } else if (fault == 9) {
            m.head().put(8, 128).put(32, 0);
        } else if (fault == 10) {
            m.head().put(8, 16).put(2, 2).put(38, 0);
        } else if (fault == 11) {
            m.head().constant(8, 127).constant(9, -1).end();
        } else if (fault == 12) {
            m.head().constant(8, 1).constant(9, 1).put(7, 1).end();
        } else if (fault == 13) {
            m.head().constant(8, 1);
        } else {
            m.frameOf(1);
        }
        m.bit15 = 0;
        m.bit32 = 0;
        m.size = 16;
    }

    private static void atFramesBehindBlocks() {
        for (int length = 0; length < 5; length++) {
            for (int fault = 4; fault <= 13; fault++) {
                Maker m = new Maker();
                m.channels = 2;
                m.c = 8;
                m.onlyBlock = false;
                m.start().block(1, 3, length).put(8 * length, 0);
                int place = frames(m, 1, fault);
                DECODING.wrong("fault " + fault + " behind a block of " + length, m, fault, place);
            }
        }
    }

    private static void atTheEnd() {
        for (int k = 0; k < 4; k++) {
            Maker less = new Maker();
            less.samples = 16 * k + 1;
            Maker sum = new Maker();
            sum.sum[0] = 1;
            Maker block = new Maker();
            block.onlyBlock = false;
            block.sum[15] = 1;
            less.start();
            sum.start();
            block.start().block(1, 1, 7).put(56, 0);
            for (int i = 0; i < k; i++) {
                for (Maker m : new Maker[] {less, sum, block}) {
                    m.number = new int[] {i};
                    m.frameOf(1);
                }
            }
            DECODING.wrong("less samples in " + k + " frames", less, 14, 42 + 11 * k);
            DECODING.wrong("another sum of " + k + " frames", sum, 15, 42 + 11 * k);
            DECODING.wrong("another sum of " + k + " frames behind a block", block, 15, 53 + 11 * k);
        }
        SoundStream x = new SoundStream();
        x.form(2, 24, 16, 1);
        x.noise(0, 1200, 99, 24);
        x.noise(1, 1200, 7, 24);
        int length = x.encode(true);
        x.spoil(41, x.spoil(41, 0) ^ 1);
        DECODING.wrong("another sum of 1200 samples", x, 15, length);
        x.cut(x.frame(74, 0));
        DECODING.wrong("1184 samples of 1200", x, 14, x.told(0));
    }
}
