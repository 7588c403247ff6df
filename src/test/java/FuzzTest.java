/** Promises 10 and 17 to 20: streams with all predictors, whole and spoilt, against a second decoder. */
public final class FuzzTest {
    private static final Check CHECK = new Check();
    private static final java.util.Random RANDOM = new java.util.Random(2026);
    private static final int[] MET = new int[16];
    /** So many are fed in 300 of the 512 calls that an object is used for; six changes and looks take the others. */
    private static final int MOST_BYTES = 8 * 300;

    public static void main(String[] args) {
        for (int round = 0; round < 2500; round++) {
            RandomStream made = new RandomStream(RANDOM);
            byte[] all = made.bytes();
            if (all.length > MOST_BYTES) {
                continue;
            }
            compare("whole " + round, Maker.fed(all), all);
            SoundStream x = Maker.fed(all);
            byte[] other = all.clone();
            for (int spoilt = 0; spoilt < 6; spoilt++) {
                other = spoil(x, other, made);
                compare("spoilt " + round + "." + spoilt, x, other);
            }
        }
        for (int fault = 1; fault <= 15; fault++) {
            CHECK.due("fault " + fault + " was met", MET[fault] > 0 ? 1 : 0, 1);
        }
        System.out.println("met by fault: " + java.util.Arrays.toString(MET));
        CHECK.end();
    }

    /** One change of the stream, with checks that suit it or not. */
    private static byte[] spoil(SoundStream x, byte[] all, RandomStream made) {
        if (all.length < 4) {
            x.feed(1, 102);
            byte[] more = java.util.Arrays.copyOf(all, all.length + 1);
            more[all.length] = 102;
            return more;
        }
        if (RANDOM.nextInt(5) == 0) {
            int n = RANDOM.nextInt(3) == 0 ? RANDOM.nextInt(all.length) : all.length - 1 - RANDOM.nextInt(Math.min(30, all.length));
            x.cut(n);
            return java.util.Arrays.copyOf(all, n);
        }
        byte[] other = all.clone();
        int frames = made.starts.size();
        int k = RANDOM.nextInt(frames + 1) - 1;
        int from = k < 0 ? 0 : made.starts.get(k);
        int to = k < 0 ? 42 : made.ends.get(k);
        int head = k < 0 ? 0 : made.heads.get(k);
        if (to > all.length) {
            return other;
        }
        int i = RANDOM.nextInt(3) == 0 && k >= 0 ? head + RANDOM.nextInt(to - head) : from + RANDOM.nextInt(to - from);
        int v = RANDOM.nextInt(3) == 0 ? RANDOM.nextInt(256) : (all[i] ^ 1 << RANDOM.nextInt(8)) & 255;
        CHECK.due("spoil", x.spoil(i, v), all[i] & 255);
        other[i] = (byte) v;
        if (k >= 0 && RANDOM.nextInt(8) != 0) {
            seal(x, other, 8, from, head - 1);
            seal(x, other, 16, from, to - 2);
        }
        return other;
    }

    private static void seal(SoundStream x, byte[] all, int n, int from, int to) {
        Bits row = new Bits();
        for (int i = from; i < to; i++) {
            row.put(8, all[i]);
        }
        int check = row.check(n, 0);
        x.seal(n, from, to);
        all[to] = (byte) (n == 8 ? check : check >> 8);
        if (n == 16) {
            all[to + 1] = (byte) check;
        }
    }

    private static void compare(String what, SoundStream x, byte[] all) {
        PlainDecoder due = new PlainDecoder(all);
        MET[due.fault]++;
        CHECK.due(what + ": decode()", x.decode(), due.fault == 0 ? due.total : -1);
        CHECK.due(what + ": fault()", x.fault(), due.fault);
        CHECK.due(what + ": place()", x.place(), due.place);
        int[] told = {due.channels, due.depth, due.greatest, due.rate, due.total, due.frames, due.sumKnown ? 1 : 0};
        int which = RANDOM.nextInt(told.length);
        CHECK.due(what + ": told(" + (2 + which) + ")", x.told(2 + which), due.fault == 0 ? told[which] : -1);
        if (due.fault != 0) {
            CHECK.throwsIndexOutOfBounds(what + ": heard(0, 0)", () -> x.heard(0, 0));
            return;
        }
        for (int c = 0; c < due.channels; c++) {
            for (int tries = 0; tries < 12 && due.total > 0; tries++) {
                int i = RANDOM.nextInt(due.total);
                CHECK.due(what + ": heard(" + c + ", " + i + ")", x.heard(c, i), due.heard[c][i]);
            }
        }
    }
}
