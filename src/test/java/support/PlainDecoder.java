/** Decodes as the document says, step after step: a second opinion on faults and their places. */
final class PlainDecoder {
    private static final class Met extends RuntimeException {
        final int fault;

        Met(int fault) {
            super(null, null, false, false);
            this.fault = fault;
        }
    }

    private final byte[] all;
    private long cursor;
    int fault;
    int place = -1;
    int channels;
    int depth;
    int least;
    int greatest;
    int rate;
    long known;
    int frames;
    int total;
    boolean sumKnown;
    final long[][] heard = new long[2][1200];

    PlainDecoder(byte[] all) {
        this.all = all;
        try {
            everything();
            place = -1;
        } catch (Met met) {
            fault = met.fault;
        }
    }

    private static void need(boolean good, int fault) {
        if (!good) {
            throw new Met(fault);
        }
    }

    private long number(int n) {
        need(cursor + n <= 8L * all.length, 13);
        long v = 0;
        for (int i = 0; i < n; i++) {
            v = 2 * v + (all[(int) (cursor / 8)] >> (7 - cursor % 8) & 1);
            cursor++;
        }
        return v;
    }

    private long withSign(int n) {
        long v = number(n);
        return n > 0 && v >= 1L << (n - 1) ? v - (1L << n) : v;
    }

    private void everything() {
        place = 0;
        need(all.length >= 4 && number(32) == 0x664c6143L, 1);
        boolean last = false;
        for (int block = 0; !last; block++) {
            place = (int) (cursor / 8);
            last = number(1) == 1;
            long type = number(7);
            long length = number(24);
            need(block == 0 ? type == 0 && length == 34 : type != 0 && type != 127, 2);
            need(cursor / 8 + length <= all.length, 13);
            if (block == 0) {
                information();
            } else {
                cursor += 8 * length;
            }
        }
        long way = -1;
        int before = 0;
        while (cursor < 8L * all.length) {
            place = (int) (cursor / 8);
            need(number(14) == 16382, 4);
            need(number(1) == 0, 4);
            long v = number(1);
            need(way == -1 || v == way, 4);
            way = v;
            before = frame(v, before);
            frames++;
        }
        place = all.length;
        need(known == 0 || total >= known, 14);
        byte[] due = java.util.Arrays.copyOfRange(all, 26, 42);
        sumKnown = !java.util.Arrays.equals(due, new byte[16]);
        need(!sumKnown || java.util.Arrays.equals(due, sum(heard, channels, total, depth)), 15);
    }

    private void information() {
        least = (int) number(16);
        greatest = (int) number(16);
        number(48);
        rate = (int) number(20);
        channels = (int) number(3) + 1;
        depth = (int) number(5) + 1;
        known = number(36);
        number(60);
        number(60);
        number(8);
        place = 8;
        need(least >= 16 && least <= greatest && rate != 0 && channels <= 2, 3);
        need(depth >= 4 && depth <= 24 && known <= 1200, 3);
    }

    private int frame(long v, int before) {
        long codes = number(16);
        int b = (int) (codes >> 12);
        int r = (int) (codes >> 8) & 15;
        int c = (int) (codes >> 4) & 15;
        int s = (int) (codes >> 1) & 7;
        need(b != 0 && r != 15 && c <= 10 && (c < 8 ? c + 1 : 2) == channels && (codes & 1) == 0, 5);
        int told = s == 0 ? depth : s == 1 ? 8 : s == 2 ? 12 : s == 4 ? 16 : s == 5 ? 20 : s == 6 ? 24 : -1;
        need(told == depth, 5);
        int number = v == 0 ? frames : total;
        if (number < 128) {
            need(number(8) == number, 6);
        } else {
            need(number(8) == 0xc0 + number / 64, 6);
            need(number(8) == 0x80 + number % 64, 6);
        }
        int size = b == 1 ? 192 : b <= 5 ? 576 * (1 << (b - 2)) : b >= 8 ? 256 * (1 << (b - 8)) : (int) number(b == 6 ? 8 : 16) + 1;
        if (r == 12) {
            number(8);
        } else if (r > 12) {
            number(16);
        }
        need(size <= greatest, 7);
        need(frames == 0 || before >= (v == 0 ? greatest : least), 7);
        need(total + size <= (known == 0 ? 1200 : known), 7);
        int check8 = check(8);
        need(number(8) == check8, 8);
        long[] one = subframe(size, depth + (c == 9 ? 1 : 0));
        long[] two = channels == 1 ? one : subframe(size, depth + (c == 8 || c == 10 ? 1 : 0));
        for (int i = 0; i < size; i++) {
            long x = one[i];
            long y = two[i];
            if (c == 8) {
                y = one[i] - two[i];
            } else if (c == 9) {
                x = one[i] + two[i];
            } else if (c == 10) {
                // the one pair with this difference whose half, rounded down, is the middle
                y = Math.floorDiv(2 * one[i] + 1 - two[i], 2);
                x = y + two[i];
                need(Math.floorDiv(x + y, 2) == one[i], 99);
            }
            need(inside(x, depth) && inside(y, depth), 11);
            heard[0][total + i] = x;
            heard[1][total + i] = y;
        }
        need(number((int) ((8 - cursor % 8) % 8)) == 0, 12);
        int check16 = check(16);
        need(number(16) == check16, 12);
        total += size;
        return size;
    }

    private static boolean inside(long v, int bits) {
        return v >= -(1L << (bits - 1)) && v < 1L << (bits - 1);
    }

    private int check(int n) {
        Bits row = new Bits();
        for (int i = place; i < cursor / 8; i++) {
            row.put(8, all[i]);
        }
        return row.check(n, 0);
    }

    private long[] subframe(int size, int b) {
        long lead = number(8);
        int type = (int) lead / 2 % 64;
        need(lead < 128, 9);
        need(type <= 1 || (type >= 8 && type <= 12) || type >= 32, 9);
        int w = 0;
        if (lead % 2 == 1) {
            do {
                w++;
                need(b - w >= 1, 9);
            } while (number(1) == 0);
        }
        int o = type >= 32 ? type - 31 : type >= 8 ? type - 8 : 0;
        need(o <= size, 9);
        long[] x = new long[size];
        if (type == 0) {
            java.util.Arrays.fill(x, withSign(b - w));
        } else {
            for (int i = 0; i < (type == 1 ? size : o); i++) {
                x[i] = withSign(b - w);
            }
        }
        if (type >= 8) {
            predicted(x, o, b - w, type >= 32);
        }
        for (int i = 0; i < size; i++) {
            x[i] *= 1L << w;
        }
        return x;
    }

    private void predicted(long[] x, int o, int b, boolean withFactors) {
        long[] factors = new long[o];
        long by = 1;
        if (withFactors) {
            int p = (int) number(4) + 1;
            need(p < 16, 10);
            long h = withSign(5);
            need(h >= 0, 10);
            by = 1L << h;
            for (int j = 0; j < o; j++) {
                factors[j] = withSign(p);
            }
        }
        long two = number(2);
        need(two < 2, 10);
        int parts = 1 << (int) number(4);
        need(x.length % parts == 0 && x.length / parts >= o, 10);
        int bitsOfK = two == 0 ? 4 : 5;
        int k = 0;
        int n = -1;
        int next = 0;
        for (int i = o; i <= x.length; i++) {
            while (next < parts && i >= (next == 0 ? o : next * (x.length / parts))) {
                next++;
                k = (int) number(bitsOfK);
                n = k == (1 << bitsOfK) - 1 ? (int) number(5) : -1;
            }
            if (i == x.length) {
                break;
            }
            long guess = 0;
            if (withFactors) {
                for (int j = 0; j < o; j++) {
                    guess += factors[j] * x[i - 1 - j];
                }
                guess = Math.floorDiv(guess, by);
            } else {
                guess = fixed(x, i, o);
            }
            x[i] = guess + (n >= 0 ? withSign(n) : coded(k));
            need(inside(x[i], b), 11);
        }
    }

    private static long fixed(long[] x, int i, int o) {
        switch (o) {
            case 0: return 0;
            case 1: return x[i - 1];
            case 2: return 2 * x[i - 1] - x[i - 2];
            case 3: return 3 * x[i - 1] - 3 * x[i - 2] + x[i - 3];
            default: return 4 * x[i - 1] - 6 * x[i - 2] + 4 * x[i - 3] - x[i - 4];
        }
    }

    private long coded(int k) {
        long zeros = 0;
        while (number(1) == 0) {
            zeros++;
            need(zeros * (1L << k) < 1L << 32, 11);
        }
        long v = zeros * (1L << k) + number(k);
        return v % 2 == 0 ? v / 2 : -(v + 1) / 2;
    }

    /** The sum by the library's own digest, of which the document tells the steps. */
    static byte[] sum(long[][] rows, int channels, int length, int depth) {
        int width = (depth + 7) / 8;
        byte[] message = new byte[length * channels * width];
        int at = 0;
        for (int i = 0; i < length; i++) {
            for (int c = 0; c < channels; c++) {
                for (int j = 0; j < width; j++) {
                    message[at++] = (byte) (rows[c][i] >> (8 * j));
                }
            }
        }
        try {
            return java.security.MessageDigest.getInstance("MD5").digest(message);
        } catch (java.security.NoSuchAlgorithmException e) {
            throw new IllegalStateException(e);
        }
    }
}
