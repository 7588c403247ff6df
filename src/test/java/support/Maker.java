/** Makes streams by hand, right ones and wrong ones. */
final class Maker {
    int least = 16;
    int greatest = 16;
    int leastFrame;
    int greatestFrame;
    int rate = 8000;
    int channels = 1;
    int depth = 8;
    long samples;
    byte[] sum = new byte[16];
    boolean onlyBlock = true;

    int sync = 16382;
    int bit15;
    int way;
    int b = 6;
    int r;
    int c;
    int s;
    int bit32;
    int size = 16;
    int[] number = {0};

    final Bits out = new Bits();
    private int frameFrom;

    Maker start() {
        out.put(8, 102).put(8, 76).put(8, 97).put(8, 67);
        out.put(1, onlyBlock ? 1 : 0).put(7, 0).put(24, 34);
        out.put(16, least).put(16, greatest).put(24, leastFrame).put(24, greatestFrame);
        out.put(20, rate).put(3, channels - 1).put(5, depth - 1).put(36, samples);
        for (byte each : sum) {
            out.put(8, each);
        }
        return this;
    }

    Maker block(int last, int type, int length) {
        out.put(1, last).put(7, type).put(24, length);
        return this;
    }

    /** The head of a frame up to check8, left out. */
    Maker headOnly() {
        frameFrom = out.length() / 8;
        out.put(14, sync).put(1, bit15).put(1, way);
        out.put(4, b).put(4, r).put(4, c).put(3, s).put(1, bit32);
        for (int each : number) {
            out.put(8, each);
        }
        if (b == 6 || b == 7) {
            out.put(b == 6 ? 8 : 16, size - 1);
        }
        if (r >= 12) {
            out.put(r == 12 ? 8 : 16, 0x5a5a);
        }
        return this;
    }

    Maker head() {
        headOnly();
        out.put(8, out.check(8, frameFrom));
        return this;
    }

    Maker headWithAnotherCheck() {
        headOnly();
        out.put(8, out.check(8, frameFrom) ^ 1);
        return this;
    }

    Maker put(int n, long v) {
        out.put(n, v);
        return this;
    }

    Maker put(Bits bits) {
        out.put(bits);
        return this;
    }

    /** A subframe of type 0 with a sample of n bits. */
    Maker constant(int n, int v) {
        return put(8, 0).put(n, v);
    }

    Maker end() {
        out.align();
        out.put(16, out.check(16, frameFrom));
        return this;
    }

    /** Such a frame with all samples alike in each channel, so that only its head matters. */
    Maker frameOf(int v) {
        head();
        constant(c == 9 ? depth + 1 : depth, v);
        if (channels == 2) {
            constant(c == 8 || c == 10 ? depth + 1 : depth, v);
        }
        return end();
    }

    /** The stream as that of a new object. */
    SoundStream fed() {
        return fed(out.bytes());
    }

    static SoundStream fed(byte[] all) {
        SoundStream x = new SoundStream();
        feed(x, all);
        return x;
    }

    static void feed(SoundStream x, byte[] all) {
        for (int i = 0; i < all.length; i += 8) {
            int n = Math.min(8, all.length - i);
            long eight = 0;
            for (int j = n - 1; j >= 0; j--) {
                eight = eight << 8 | all[i + j] & 255;
            }
            x.feed(n, eight);
        }
    }

    int bytes() {
        return out.length() / 8;
    }
}
