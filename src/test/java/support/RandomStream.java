/** A stream that is right, with predictors, parts and codes of every kind. */
final class RandomStream {
    final java.util.List<Integer> starts = new java.util.ArrayList<>();
    final java.util.List<Integer> heads = new java.util.ArrayList<>();
    final java.util.List<Integer> ends = new java.util.ArrayList<>();
    private final java.util.Random random;
    private final Maker m = new Maker();

    RandomStream(java.util.Random random) {
        this.random = random;
        m.channels = 1 + random.nextInt(2);
        m.depth = random.nextInt(3) == 0 ? new int[] {8, 12, 16, 20, 24}[random.nextInt(5)] : 4 + random.nextInt(21);
        m.rate = 1 + random.nextInt(1048575);
        m.least = 16 + random.nextInt(4);
        m.greatest = m.least + random.nextInt(60);
        if (random.nextInt(4) == 0) {
            m.greatest = 192 + random.nextInt(9);
        }
        m.way = random.nextInt(2);
        int frames = random.nextInt(5);
        int[] sizes = new int[frames];
        int total = 0;
        for (int k = 0; k < frames; k++) {
            sizes[k] = m.way == 0 ? m.greatest : m.least + random.nextInt(m.greatest - m.least + 1);
            if (k == frames - 1) {
                sizes[k] = 1 + random.nextInt(m.greatest);
            }
            if (m.greatest >= 192 && random.nextInt(3) == 0 && m.way == 1) {
                sizes[k] = 192;
            }
            total += sizes[k];
        }
        long[][] rows = new long[2][total];
        for (int c = 0; c < m.channels; c++) {
            row(rows, c);
        }
        m.samples = random.nextBoolean() ? total : 0;
        if (random.nextBoolean()) {
            m.sum = PlainDecoder.sum(rows, m.channels, total, m.depth);
        }
        m.onlyBlock = random.nextInt(3) > 0;
        m.start();
        if (!m.onlyBlock) {
            m.block(1, 1 + random.nextInt(126), 2).put(16, random.nextInt());
        }
        int at = 0;
        for (int k = 0; k < frames; k++) {
            frame(rows, k, at, sizes[k]);
            at += sizes[k];
        }
    }

    byte[] bytes() {
        return m.out.bytes();
    }

    private void row(long[][] rows, int c) {
        int kind = random.nextInt(4);
        int scale = random.nextInt(3) == 0 ? random.nextInt(m.depth) : 0;
        double speed = 0.01 + 0.3 * random.nextDouble();
        for (int i = 0; i < rows[c].length; i++) {
            long v = kind == 0 ? random.nextInt() : kind == 1 ? (long) (Math.sin(i * speed) * (1 << (m.depth - 1)) * 0.99)
                : kind == 2 ? random.nextInt(5) - 2 : i / 40 * 3;
            if (c == 1 && random.nextInt(10) > 0) {
                v = rows[0][i] + v % 3;
            }
            int unused = 64 - m.depth;
            rows[c][i] = v >> scale << scale << unused >> unused;
        }
    }

    private void frame(long[][] rows, int k, int at, int size) {
        m.size = size;
        m.b = size == 192 && random.nextBoolean() ? 1 : size <= 256 && random.nextInt(3) > 0 ? 6 : 7;
        m.r = random.nextInt(15);
        m.c = m.channels == 1 ? 0 : new int[] {1, 8, 9, 10}[random.nextInt(4)];
        int s = m.depth == 8 ? 1 : m.depth == 12 ? 2 : m.depth == 16 ? 4 : m.depth == 20 ? 5 : m.depth == 24 ? 6 : 0;
        m.s = random.nextBoolean() ? s : 0;
        int number = m.way == 0 ? k : at;
        m.number = number < 128 ? new int[] {number} : new int[] {192 + number / 64, 128 + number % 64};
        starts.add(m.bytes());
        m.head();
        heads.add(m.bytes());
        long[] one = new long[size];
        long[] two = new long[size];
        for (int i = 0; i < size; i++) {
            long x = rows[0][at + i];
            long y = rows[1][at + i];
            one[i] = m.c == 9 ? x - y : m.c == 10 ? x + y >> 1 : x;
            two[i] = m.c == 8 || m.c == 10 ? x - y : y;
        }
        subframe(one, m.depth + (m.c == 9 ? 1 : 0));
        if (m.channels == 2) {
            subframe(two, m.depth + (m.c == 8 || m.c == 10 ? 1 : 0));
        }
        m.end();
        ends.add(m.bytes());
    }

    private void subframe(long[] x, int b) {
        long used = 0;
        boolean alike = true;
        for (long each : x) {
            used |= each;
            alike &= each == x[0];
        }
        int most = used == 0 ? b - 1 : Long.numberOfTrailingZeros(used);
        int w = random.nextInt(most + 1);
        for (int i = 0; i < x.length; i++) {
            x[i] >>= w;
        }
        int o = random.nextInt(4) == 0 ? random.nextInt(33) : random.nextInt(5);
        o = Math.min(o, x.length);
        int type = o <= 4 && random.nextBoolean() ? 8 + o : o == 0 ? 8 : 31 + o;
        if (alike && random.nextInt(3) > 0) {
            type = 0;
        } else if (random.nextInt(6) == 0) {
            type = 1;
        }
        m.put(1, 0).put(6, type).put(1, w > 0 ? 1 : 0).put(w, 1);
        int first = type == 0 ? 1 : type == 1 ? x.length : o;
        for (int i = 0; i < first; i++) {
            m.put(b - w, x[i]);
        }
        if (type >= 8) {
            rests(x, o, type);
        }
    }

    private void rests(long[] x, int o, int type) {
        int p = 1 + random.nextInt(8);
        int h = random.nextInt(16);
        long[] factors = new long[o];
        for (int j = 0; j < o; j++) {
            factors[j] = random.nextInt(1 << p) - (1 << (p - 1));
        }
        if (type >= 32) {
            h = Math.max(h, p);
            m.put(4, p - 1).put(5, h);
            for (long factor : factors) {
                m.put(p, factor);
            }
        }
        long[] rests = new long[x.length];
        for (int i = o; i < x.length; i++) {
            long guess = 0;
            if (type >= 32) {
                for (int j = 0; j < o; j++) {
                    guess += factors[j] * x[i - 1 - j];
                }
                guess >>= h;
            } else {
                int[][] fixed = {{}, {1}, {2, -1}, {3, -3, 1}, {4, -6, 4, -1}};
                for (int j = 0; j < o; j++) {
                    guess += fixed[o][j] * x[i - 1 - j];
                }
            }
            rests[i] = x[i] - guess;
        }
        int way = random.nextInt(2);
        int q = 0;
        while (random.nextInt(3) > 0 && x.length % (2 << q) == 0 && x.length / (2 << q) >= o) {
            q++;
        }
        m.put(2, way).put(4, q);
        int each = x.length >> q;
        for (int part = 0; part < 1 << q; part++) {
            part(rests, part == 0 ? o : part * each, (part + 1) * each, 4 + way);
        }
    }

    private void part(long[] rests, int from, int to, int bitsOfK) {
        int n = 0;
        for (int i = from; i < to; i++) {
            long r = rests[i];
            n = Math.max(n, r == 0 ? 0 : 65 - Long.numberOfLeadingZeros(r < 0 ? ~r : r));
        }
        int escape = (1 << bitsOfK) - 1;
        int k = Math.max(0, n - 4) + random.nextInt(4);
        if (k >= escape || random.nextInt(5) == 0) {
            n = Math.min(31, n + random.nextInt(3));
            m.put(bitsOfK, escape).put(5, n);
            for (int i = from; i < to; i++) {
                m.put(n, rests[i]);
            }
            return;
        }
        m.put(bitsOfK, k);
        Bits row = new Bits();
        for (int i = from; i < to; i++) {
            row.rest(k, rests[i]);
        }
        m.put(row);
    }
}
