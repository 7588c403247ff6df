/** Encodes as the document says, by counting everything out: a second opinion on the program's streams. */
final class PlainEncoder {
    private final int[][] rows;
    private final int depth;
    private final int block;
    private final int rate;
    private final byte[] sum;

    PlainEncoder(int[][] rows, int depth, int block, int rate, byte[] sum) {
        this.rows = rows;
        this.depth = depth;
        this.block = block;
        this.rate = rate;
        this.sum = sum;
    }

    byte[] encode(boolean v) {
        int samples = rows[0].length;
        java.util.List<Bits> frames = new java.util.ArrayList<>();
        int least = 0;
        int greatest = 0;
        for (int start = 0; start < samples; start += block) {
            Bits frame = frame(start, Math.min(block, samples - start), v ? start : frames.size(), v);
            int bytes = frame.length() / 8;
            least = frames.isEmpty() ? bytes : Math.min(least, bytes);
            greatest = Math.max(greatest, bytes);
            frames.add(frame);
        }
        Bits out = new Bits().put(32, 0x664c6143L).put(8, 128).put(24, 34);
        out.put(16, block).put(16, block).put(24, least).put(24, greatest);
        out.put(20, rate).put(3, rows.length - 1).put(5, depth - 1).put(36, samples);
        for (byte each : sum) {
            out.put(8, each);
        }
        for (Bits frame : frames) {
            out.put(frame);
        }
        return out.bytes();
    }

    private Bits frame(int start, int size, int number, boolean v) {
        int c = 0;
        Bits body = null;
        if (rows.length == 1) {
            body = subframe(part(start, size, 0), depth);
        } else {
            for (int tried : new int[] {1, 8, 9, 10}) {
                Bits both = subframe(part(start, size, tried == 9 ? 3 : tried == 10 ? 2 : 0), depth + (tried == 9 ? 1 : 0));
                boolean second = tried == 1 || tried == 9;
                both.put(subframe(part(start, size, second ? 1 : 3), depth + (second ? 0 : 1)));
                if (body == null || both.length() < body.length()) {
                    body = both;
                    c = tried;
                }
            }
        }
        Bits out = new Bits().put(14, 16382).put(1, 0).put(1, v ? 1 : 0);
        out.put(4, size <= 256 ? 6 : 7).put(4, 0).put(4, c).put(3, 0).put(1, 0);
        if (number < 128) {
            out.put(8, number);
        } else {
            out.put(3, 6).put(5, number >> 6).put(2, 2).put(6, number);
        }
        out.put(size <= 256 ? 8 : 16, size - 1);
        out.put(8, out.check(8, 0));
        out.put(body).align();
        return out.put(16, out.check(16, 0));
    }

    /** 0 and 1: the channels, 2: the middle, 3: the difference. */
    private long[] part(int start, int size, int which) {
        long[] x = new long[size];
        for (int i = 0; i < size; i++) {
            long one = rows[0][start + i];
            long two = rows[rows.length - 1][start + i];
            x[i] = which == 0 ? one : which == 1 ? two : which == 2 ? Math.floorDiv(one + two, 2) : one - two;
        }
        return x;
    }

    static Bits subframe(long[] x, int b) {
        int w = 0;
        while (w < b && divides(x, 2L << w)) {
            w++;
        }
        if (w == b) {
            w = 0;
        }
        for (int i = 0; i < x.length; i++) {
            x[i] = Math.floorDiv(x[i], 1L << w);
        }
        int type = -1;
        Bits best = null;
        for (int tried : new int[] {0, 1, 8, 9, 10, 11, 12}) {
            Bits body = body(x, b - w, tried);
            if (body != null && (best == null || body.length() < best.length())) {
                best = body;
                type = tried;
            }
        }
        Bits out = new Bits().put(1, 0).put(6, type).put(1, w == 0 ? 0 : 1);
        if (w > 0) {
            out.zeros(w - 1).put(1, 1);
        }
        return out.put(best);
    }

    private static boolean divides(long[] x, long by) {
        for (long each : x) {
            if (each % by != 0) {
                return false;
            }
        }
        return true;
    }

    private static Bits body(long[] x, int b, int type) {
        Bits out = new Bits();
        if (type == 0) {
            for (long each : x) {
                if (each != x[0]) {
                    return null;
                }
            }
            return out.put(b, x[0]);
        }
        int first = type == 1 ? x.length : type - 8;
        if (type > 1 && first >= x.length) {
            return null;
        }
        for (int i = 0; i < first; i++) {
            out.put(b, x[i]);
        }
        return type == 1 ? out : out.put(rests(x, first));
    }

    private static long predicted(long[] x, int i, int o) {
        switch (o) {
            case 0: return 0;
            case 1: return x[i - 1];
            case 2: return 2 * x[i - 1] - x[i - 2];
            case 3: return 3 * x[i - 1] - 3 * x[i - 2] + x[i - 3];
            default: return 4 * x[i - 1] - 6 * x[i - 2] + 4 * x[i - 3] - x[i - 4];
        }
    }

    private static Bits rests(long[] x, int o) {
        Bits best = null;
        for (int q = 0; q <= 5; q++) {
            int parts = 1 << q;
            if (x.length % parts != 0 || x.length / parts <= o) {
                continue;
            }
            Bits tried = new Bits().put(2, 0).put(4, q);
            for (int part = 0; part < parts; part++) {
                int from = part == 0 ? o : part * (x.length / parts);
                long[] rests = new long[(part + 1) * (x.length / parts) - from];
                for (int i = 0; i < rests.length; i++) {
                    rests[i] = x[from + i] - predicted(x, from + i, o);
                }
                tried.put(restsOfPart(rests));
            }
            if (best == null || tried.length() < best.length()) {
                best = tried;
            }
        }
        return best;
    }

    private static Bits restsOfPart(long[] rests) {
        int best = -1;
        long fewest = Long.MAX_VALUE;
        for (int k = 0; k <= 14; k++) {
            long bits = 4;
            for (long r : rests) {
                bits += ((r >= 0 ? 2 * r : -2 * r - 1) >> k) + 1 + k;
            }
            if (bits < fewest) {
                fewest = bits;
                best = k;
            }
        }
        int n = 0;
        for (long r : rests) {
            while (n == 0 ? r != 0 : r < -(1L << (n - 1)) || r >= 1L << (n - 1)) {
                n++;
            }
        }
        Bits out = new Bits();
        if (9 + (long) n * rests.length < fewest) {
            out.put(4, 15).put(5, n);
            for (long r : rests) {
                out.put(n, r);
            }
            return out;
        }
        out.put(4, best);
        for (long r : rests) {
            out.rest(best, r);
        }
        return out;
    }
}
