import java.util.Arrays;

/** Sound without loss: rows of samples become a stream of frames, and such a stream is read back. */
public final class SoundStream {
    public static final int NONE = -1;

    private static final int MOST_CHANNELS = 2;
    private static final int MOST_SAMPLES = 1200;
    private static final int MOST_BYTES = 9000;
    private static final int LEAST_DEPTH = 4;
    private static final int MOST_DEPTH = 24;
    private static final int LEAST_BLOCK = 16;
    private static final int MOST_BLOCK = 1024;
    private static final int MOST_RATE = 655350;
    private static final int MOST_FRAMES = MOST_SAMPLES / LEAST_BLOCK;
    private static final int MOST_FIXED_ORDER = 4;
    private static final int MOST_ORDER = 32;

    private static final int TYPE_CONSTANT = 0;
    private static final int TYPE_PLAIN = 1;
    private static final int TYPE_FIXED = 8;
    private static final int TYPE_FACTORS = 32;

    private static final int FIRST_AND_SECOND = 1;
    private static final int FIRST_AND_DIFFERENCE = 8;
    private static final int DIFFERENCE_AND_SECOND = 9;
    private static final int MIDDLE_AND_DIFFERENCE = 10;

    private static final int FRAME_START = 16382;
    private static final int INFORMATION_BYTES = 34;
    private static final int BYTE_OF_LEAST_FRAME = 12;
    private static final int BYTE_OF_GREATEST_FRAME = 15;
    private static final int SIZE_IN_ONE_BYTE = 6;
    private static final int SIZE_IN_TWO_BYTES = 7;

    private static final int FAULT_START = 1;
    private static final int FAULT_BLOCK = 2;
    private static final int FAULT_INFORMATION = 3;
    private static final int FAULT_FRAME_START = 4;
    private static final int FAULT_FRAME_CODES = 5;
    private static final int FAULT_NUMBER = 6;
    private static final int FAULT_SIZE = 7;
    private static final int FAULT_CHECK8 = 8;
    private static final int FAULT_SUBFRAME = 9;
    private static final int FAULT_PREDICTION = 10;
    private static final int FAULT_RANGE = 11;
    private static final int FAULT_CHECK16 = 12;
    private static final int FAULT_END = 13;
    private static final int FAULT_SAMPLES = 14;
    private static final int FAULT_SUM = 15;

    private static final int[] START = {102, 76, 97, 67};

    private final Sound rows;
    private final Bytes bytes;
    private final Digest digest;
    private final Encoder encoder;
    private final Decoder decoder;

    public SoundStream() {
        rows = new Sound();
        bytes = new Bytes();
        digest = new Digest();
        encoder = new Encoder(rows, bytes, digest);
        decoder = new Decoder(bytes, digest);
    }

    public void form(int channels, int depth, int block, int rate) throws IllegalArgumentException {
        if (channels < 1 || channels > MOST_CHANNELS || depth < LEAST_DEPTH || depth > MOST_DEPTH) {
            throw new IllegalArgumentException("no such channels or depth");
        }
        if (block < LEAST_BLOCK || block > MOST_BLOCK || rate < 1 || rate > MOST_RATE) {
            throw new IllegalArgumentException("no such block or rate");
        }
        rows.shape(channels, depth, block, rate);
        rows.empty();
    }

    public int sample(int channel, int v) throws IllegalArgumentException {
        return ramp(channel, 1, v, 0);
    }

    public int ramp(int channel, int n, int v, int step) throws IllegalArgumentException {
        if (!rows.hasChannel(channel) || n < 0) {
            throw new IllegalArgumentException("no such channel, or n below 0");
        }
        if (n > rows.room(channel)) {
            return NONE;
        }
        int next = v;
        for (int i = 0; i < n; i++) {
            rows.append(channel, next);
            next += step;
        }
        return rows.lengths[channel];
    }

    public int noise(int channel, int n, int seed, int bits) throws IllegalArgumentException {
        if (!rows.hasChannel(channel) || n < 0 || bits < 1 || bits > 24) {
            throw new IllegalArgumentException("no such channel, n below 0, or bits not 1 .. 24");
        }
        if (n > rows.room(channel)) {
            return NONE;
        }
        int x = seed;
        for (int i = 0; i < n; i++) {
            x = 1103515245 * x + 12345;
            rows.append(channel, x >> (32 - bits));
        }
        return rows.lengths[channel];
    }

    public void clear() {
        rows.empty();
    }

    public int at(int channel, int i) throws IllegalArgumentException, IndexOutOfBoundsException {
        if (!rows.hasChannel(channel)) {
            throw new IllegalArgumentException("no such channel");
        }
        if (!rows.hasSample(channel, i)) {
            throw new IndexOutOfBoundsException("no such sample");
        }
        return rows.samples[channel][i];
    }

    public long sum(int half) throws IllegalArgumentException, IllegalStateException {
        if (half != 0 && half != 1) {
            throw new IllegalArgumentException("a sum has the halves 0 and 1");
        }
        if (!rows.isEven()) {
            throw new IllegalStateException("the rows are not alike in length");
        }
        digest.take(rows);
        return digest.half(half);
    }

    public int encode(boolean v) throws IllegalStateException {
        if (!rows.isEven()) {
            throw new IllegalStateException("the rows are not alike in length");
        }
        encoder.write(v);
        return bytes.length;
    }

    public int told(int what) throws IllegalArgumentException {
        if (what < 0 || what > 8) {
            throw new IllegalArgumentException("what is not 0 .. 8");
        }
        if (what == 0) {
            return bytes.length;
        }
        return what == 1 ? encoder.frames : decoder.tell(what);
    }

    public int frame(int k, int what) throws IllegalArgumentException, IndexOutOfBoundsException {
        if (what < 0 || what >= Encoder.NOTES) {
            throw new IllegalArgumentException("what is not 0 .. 8");
        }
        if (k < 0 || k >= encoder.frames) {
            throw new IndexOutOfBoundsException("no such frame");
        }
        return encoder.notes[k][what];
    }

    public long stream(int i) {
        long eight = 0;
        for (int j = 7; j >= 0; j--) {
            // an index past the last int wraps to one below 0, where there is no byte either
            eight = eight << 8 | bytes.get(i + j);
        }
        return eight;
    }

    public int feed(int n, long bytes) throws IllegalArgumentException {
        if (n < 1 || n > 8) {
            throw new IllegalArgumentException("n is not 1 .. 8");
        }
        if (n > MOST_BYTES - this.bytes.length) {
            return NONE;
        }
        for (int i = 0; i < n; i++) {
            this.bytes.add((int) (bytes >> (8 * i)));
        }
        return this.bytes.length;
    }

    public int cut(int n) throws IllegalArgumentException {
        if (n < 0 || n > bytes.length) {
            throw new IllegalArgumentException("n is below 0, or above the number of bytes");
        }
        int before = bytes.length;
        bytes.length = n;
        return before;
    }

    public int spoil(int i, int v) throws IndexOutOfBoundsException, IllegalArgumentException {
        if (i < 0 || i >= bytes.length) {
            throw new IndexOutOfBoundsException("no such byte");
        }
        if (v < 0 || v > 255) {
            throw new IllegalArgumentException("v is not 0 .. 255");
        }
        int before = bytes.get(i);
        bytes.set(i, v);
        return before;
    }

    public void seal(int n, int from, int to) throws IllegalArgumentException, IndexOutOfBoundsException {
        if (n != 8 && n != 16) {
            throw new IllegalArgumentException("n is not 8 or 16");
        }
        if (from < 0 || from > to || to > bytes.length - n / 8) {
            throw new IndexOutOfBoundsException("no such bytes");
        }
        int check = bytes.check(n, from, to);
        if (n == 16) {
            bytes.set(to, check >> 8);
            bytes.set(to + 1, check);
        } else {
            bytes.set(to, check);
        }
    }

    public int decode() {
        decoder.begin();
        try {
            decoder.readInformation();
            // no frame is shorter than a byte, so this many are never left out
            for (int i = 0; i < MOST_BYTES && decoder.hasMore(); i++) {
                decoder.readFrame();
            }
            decoder.checkWhole();
        } catch (IllegalStateException atTheFault) {
            decoder.refuse();
            return NONE;
        }
        return decoder.sound.lengths[0];
    }

    public int fault() {
        return decoder.in.fault;
    }

    public int place() {
        return decoder.in.fault == 0 ? NONE : decoder.in.place;
    }

    public int heard(int channel, int i) throws IllegalArgumentException, IndexOutOfBoundsException {
        if (channel != 0 && channel != 1) {
            throw new IllegalArgumentException("channel is not 0 or 1");
        }
        if (!decoder.sound.hasSample(channel, i)) {
            throw new IndexOutOfBoundsException("no such sample");
        }
        return decoder.sound.samples[channel][i];
    }

    /** No frame's number is above 1200 here, so two bytes have room for each. */
    private static int bytesOfNumber(int number) {
        return number < 128 ? 1 : 2;
    }

    private static int byteOfNumber(int number, int i) {
        if (number < 128) {
            return number;
        }
        return i == 0 ? 192 | number >> 6 : 128 | (number & 63);
    }

    /** Samples together with their form. */
    private static final class Sound {
        int channels = 1;
        int depth = 16;
        int block = 64;
        int rate = 8000;
        final int[][] samples = new int[MOST_CHANNELS][MOST_SAMPLES];
        final int[] lengths = new int[MOST_CHANNELS];

        void shape(int channels, int depth, int block, int rate) {
            this.channels = channels;
            this.depth = depth;
            this.block = block;
            this.rate = rate;
        }

        void empty() {
            lengths[0] = 0;
            lengths[1] = 0;
        }

        boolean hasChannel(int channel) {
            return channel >= 0 && channel < channels;
        }

        boolean hasSample(int channel, int i) {
            return i >= 0 && i < lengths[channel];
        }

        boolean isEven() {
            return channels == 1 || lengths[0] == lengths[1];
        }

        int room(int channel) {
            return MOST_SAMPLES - lengths[channel];
        }

        /** The caller has seen that there is room. */
        void append(int channel, int number) {
            int unused = 32 - depth;
            samples[channel][lengths[channel]] = number << unused >> unused;
            lengths[channel]++;
        }
    }

    /** The sum of rows alike in length. */
    private static final class Digest {
        private static final long[] ADDENDS = {
            3614090360L, 3905402710L, 606105819L, 3250441966L, 4118548399L, 1200080426L, 2821735955L, 4249261313L,
            1770035416L, 2336552879L, 4294925233L, 2304563134L, 1804603682L, 4254626195L, 2792965006L, 1236535329L,
            4129170786L, 3225465664L, 643717713L, 3921069994L, 3593408605L, 38016083L, 3634488961L, 3889429448L,
            568446438L, 3275163606L, 4107603335L, 1163531501L, 2850285829L, 4243563512L, 1735328473L, 2368359562L,
            4294588738L, 2272392833L, 1839030562L, 4259657740L, 2763975236L, 1272893353L, 4139469664L, 3200236656L,
            681279174L, 3936430074L, 3572445317L, 76029189L, 3654602809L, 3873151461L, 530742520L, 3299628645L,
            4096336452L, 1126891415L, 2878612391L, 4237533241L, 1700485571L, 2399980690L, 4293915773L, 2240044497L,
            1873313359L, 4264355552L, 2734768916L, 1309151649L, 4149444226L, 3174756917L, 718787259L, 3951481745L
        };
        private static final int[] TURNS = {7, 12, 17, 22, 5, 9, 14, 20, 4, 11, 16, 23, 6, 10, 15, 21};

        private final int[] words = new int[16];
        private int count;
        private int a;
        private int b;
        private int c;
        private int d;

        void take(Sound sound) {
            begin();
            int width = (sound.depth + 7) >> 3;
            for (int i = 0; i < sound.lengths[0]; i++) {
                for (int channel = 0; channel < sound.channels; channel++) {
                    add(width, sound.samples[channel][i]);
                }
            }
            long bits = 8L * count;
            add(1, 128);
            for (int i = 0; i < 64 && (count & 63) != 56; i++) {
                add(1, 0);
            }
            add(8, bits);
        }

        /** Eight of the sum's bytes, the first one the lowest. */
        long half(int half) {
            int low = half == 0 ? a : c;
            int high = half == 0 ? b : d;
            return (long) high << 32 | (low & 0xFFFFFFFFL);
        }

        private void begin() {
            Arrays.fill(words, 0);
            count = 0;
            a = 1732584193;
            b = (int) 4023233417L;
            c = (int) 2562383102L;
            d = 271733878;
        }

        /** The n lowest bytes of a number, the lowest first. */
        private void add(int n, long number) {
            for (int i = 0; i < n; i++) {
                int octet = (int) (number >> (8 * i)) & 255;
                words[(count & 63) >> 2] |= octet << (8 * (count & 3));
                count++;
                if ((count & 63) == 0) {
                    mix();
                    Arrays.fill(words, 0);
                }
            }
        }

        private void mix() {
            int p = a;
            int q = b;
            int r = c;
            int s = d;
            for (int i = 0; i < 64; i++) {
                int round = i >> 4;
                int turn = TURNS[4 * round + (i & 3)];
                int t = p + blend(round, q, r, s) + (int) ADDENDS[i] + words[wordFor(round, i)];
                p = s;
                s = r;
                r = q;
                q += t << turn | t >>> (32 - turn);
            }
            a += p;
            b += q;
            c += r;
            d += s;
        }

        private static int blend(int round, int b, int c, int d) {
            switch (round) {
                case 0:
                    return (b & c) | (~b & d);
                case 1:
                    return (d & b) | (~d & c);
                case 2:
                    return b ^ c ^ d;
                default:
                    return c ^ (b | ~d);
            }
        }

        private static int wordFor(int round, int i) {
            switch (round) {
                case 0:
                    return i & 15;
                case 1:
                    return (5 * i + 1) & 15;
                case 2:
                    return (3 * i + 5) & 15;
                default:
                    return (7 * i) & 15;
            }
        }
    }

    /** The bytes of a stream. */
    private static final class Bytes {
        private final byte[] data = new byte[MOST_BYTES];
        int length;

        /** 0 for a byte that is not there. */
        int get(int i) {
            return i >= 0 && i < length ? data[i] & 255 : 0;
        }

        void set(int i, int v) {
            if (i >= 0 && i < length) {
                data[i] = (byte) v;
            }
        }

        void add(int v) {
            if (length < MOST_BYTES) {
                data[length] = (byte) v;
                length++;
            }
        }

        /** The check of n bits of the bytes from one on up to another one. */
        int check(int n, int from, int to) {
            int highest = 1 << (n - 1);
            int pattern = n == 8 ? 7 : 32773;
            int check = 0;
            for (int i = from; i < to; i++) {
                check ^= get(i) << (n - 8);
                for (int bit = 0; bit < 8; bit++) {
                    boolean turned = (check & highest) != 0;
                    check = (check & (highest - 1)) << 1;
                    if (turned) {
                        check ^= pattern;
                    }
                }
            }
            return check;
        }
    }

    /** Puts bits behind the bytes of a stream. */
    private static final class Writer {
        private final Bytes bytes;
        private int pending;
        private int held;

        Writer(Bytes bytes) {
            this.bytes = bytes;
        }

        /** The n lowest bits of a number, the highest first; of 0 any number of them. */
        void put(int n, long number) {
            for (int i = n - 1; i >= 0; i--) {
                pending = pending << 1 | (int) (number >> i) & 1;
                held++;
                if (held == 8) {
                    bytes.add(pending);
                    pending = 0;
                    held = 0;
                }
            }
        }

        void fillByte() {
            put((8 - held) & 7, 0);
        }
    }

    /** The rests of a subframe's samples, and how they take the fewest bits. */
    private static final class Rests {
        private static final int FINEST = 5;
        private static final int ESCAPE = 15;

        private final int[] rests = new int[MOST_BLOCK];
        /** Of each part and k: the zeros that its rests would take. */
        private final long[][] zeros = new long[1 << FINEST][ESCAPE];
        /** Of each part: the bits that any of its folded rests has. */
        private final int[] used = new int[1 << FINEST];
        private int size;
        private int order;
        private int k;
        private int n;
        int q;

        /** With order 0 the rests are the samples. */
        void begin(int[] samples, int size) {
            System.arraycopy(samples, 0, rests, 0, size);
            this.size = size;
            order = 0;
        }

        /** The rests of one order more are the differences of those before. */
        void raiseOrder() {
            order++;
            for (int i = size - 1; i >= order; i--) {
                rests[i] -= rests[i - 1];
            }
        }

        /** The fewest bits for all rests of this order; q is then the one that takes them. */
        long weigh() {
            int finest = finestParts();
            collect(finest);
            long fewest = Long.MAX_VALUE;
            for (int tried = finest; tried >= 0; tried--) {
                long bits = bitsOfAll(tried);
                // the smaller q comes first in the document's order, so it wins a tie
                if (bits <= fewest) {
                    fewest = bits;
                    q = tried;
                }
                joinPairs(tried);
            }
            return fewest;
        }

        void write(Writer out, int q) {
            collect(q);
            out.put(2, 0);
            out.put(4, q);
            int each = size >> q;
            int from = order;
            for (int part = 0; part < 1 << q; part++) {
                int to = (part + 1) * each;
                bitsOf(part, to - from);
                writePart(out, from, to);
                from = to;
            }
        }

        private int finestParts() {
            int finest = 0;
            while (finest < FINEST && (size & ((2 << finest) - 1)) == 0 && size >> (finest + 1) > order) {
                finest++;
            }
            return finest;
        }

        /** Makes 2^q parts ready for bitsOf(). */
        private void collect(int q) {
            int each = size >> q;
            int i = order;
            for (int part = 0; part < 1 << q; part++) {
                Arrays.fill(zeros[part], 0);
                used[part] = 0;
                for (; i < (part + 1) * each; i++) {
                    addRest(part, fold(rests[i]));
                }
            }
        }

        private void addRest(int part, int folded) {
            used[part] |= folded;
            for (int tried = 0; tried < ESCAPE && folded >> tried > 0; tried++) {
                zeros[part][tried] += folded >> tried;
            }
        }

        private long bitsOfAll(int q) {
            int each = size >> q;
            long bits = 6;
            for (int part = 0; part < 1 << q; part++) {
                bits += bitsOf(part, part == 0 ? each - order : each);
            }
            return bits;
        }

        /** The fewest bits for a part with so many rests; k, and n if that is needed, take them then. */
        private long bitsOf(int part, int count) {
            long fewest = Long.MAX_VALUE;
            for (int tried = 0; tried < ESCAPE; tried++) {
                long bits = 4 + (tried + 1L) * count + zeros[part][tried];
                if (bits < fewest) {
                    fewest = bits;
                    k = tried;
                }
            }
            // a folded rest has as many bits as the rest needs with its sign, and 0 has none
            n = 32 - Integer.numberOfLeadingZeros(used[part]);
            long escaped = 9 + (long) n * count;
            if (escaped < fewest) {
                fewest = escaped;
                k = ESCAPE;
            }
            return fewest;
        }

        private void joinPairs(int q) {
            for (int part = 0; part < 1 << q >> 1; part++) {
                for (int tried = 0; tried < ESCAPE; tried++) {
                    zeros[part][tried] = zeros[2 * part][tried] + zeros[2 * part + 1][tried];
                }
                used[part] = used[2 * part] | used[2 * part + 1];
            }
        }

        private void writePart(Writer out, int from, int to) {
            out.put(4, k);
            if (k == ESCAPE) {
                out.put(5, n);
            }
            for (int i = from; i < to; i++) {
                if (k == ESCAPE) {
                    out.put(n, rests[i]);
                } else {
                    int folded = fold(rests[i]);
                    out.put(folded >> k, 0);
                    out.put(1, 1);
                    out.put(k, folded);
                }
            }
        }

        private static int fold(int rest) {
            return rest << 1 ^ rest >> 31;
        }
    }

    /** The samples of one channel in one frame, and the type that takes the fewest bits. */
    private static final class Subframe {
        private final int[] samples = new int[MOST_BLOCK];
        private final Rests rests;
        private int size;
        private int width;
        private int q;
        int type;
        int w;
        long bits;

        Subframe(Rests rests) {
            this.rests = rests;
        }

        void setSample(int i, int v) {
            samples[i] = v;
        }

        /** Chooses the type for samples of so many bits that have been set. */
        void choose(int size, int depth) {
            this.size = size;
            boolean alike = dropZeros();
            width = depth - w;
            type = alike ? TYPE_CONSTANT : TYPE_PLAIN;
            // of a single sample both take as many bits, and the constant comes first
            long fewest = alike ? width : (long) width * size;
            rests.begin(samples, size);
            for (int order = 0; order <= MOST_FIXED_ORDER && order < size; order++) {
                if (order > 0) {
                    rests.raiseOrder();
                }
                long predicted = (long) width * order + rests.weigh();
                if (predicted < fewest) {
                    fewest = predicted;
                    type = TYPE_FIXED + order;
                    q = rests.q;
                }
            }
            bits = 8 + w + fewest;
        }

        void write(Writer out) {
            out.put(7, type);
            out.put(1, w > 0 ? 1 : 0);
            // w - 1 zeros and a one are the number 1 in w bits
            out.put(w, 1);
            if (type == TYPE_CONSTANT) {
                out.put(width, samples[0]);
                return;
            }
            int first = type == TYPE_PLAIN ? size : type - TYPE_FIXED;
            for (int i = 0; i < first; i++) {
                out.put(width, samples[i]);
            }
            if (type != TYPE_PLAIN) {
                rests.begin(samples, size);
                for (int order = 0; order < first; order++) {
                    rests.raiseOrder();
                }
                rests.write(out, q);
            }
        }

        /** Takes away the low zeros that all samples have; answers whether all are the same. */
        private boolean dropZeros() {
            int used = 0;
            boolean alike = true;
            for (int i = 0; i < size; i++) {
                used |= samples[i];
                alike = alike && samples[i] == samples[0];
            }
            w = used == 0 ? 0 : Integer.numberOfTrailingZeros(used);
            for (int i = 0; i < size; i++) {
                samples[i] >>= w;
            }
            return alike;
        }
    }

    /** Writes the stream of the rows. */
    private static final class Encoder {
        /** What is told of a frame: its first byte, bytes, C, and of each subframe the type, w and bits. */
        static final int NOTES = 9;

        private final Sound sound;
        private final Bytes bytes;
        private final Digest digest;
        private final Writer out;
        private final Subframe first;
        private final Subframe second;
        private final Subframe middle;
        private final Subframe difference;
        final int[][] notes = new int[MOST_FRAMES][NOTES];
        int frames;

        Encoder(Sound sound, Bytes bytes, Digest digest) {
            this.sound = sound;
            this.bytes = bytes;
            this.digest = digest;
            out = new Writer(bytes);
            Rests rests = new Rests();
            first = new Subframe(rests);
            second = new Subframe(rests);
            middle = new Subframe(rests);
            difference = new Subframe(rests);
        }

        void write(boolean bySample) {
            bytes.length = 0;
            frames = 0;
            writeInformation();
            int samples = sound.lengths[0];
            for (int start = 0; start < samples && frames < MOST_FRAMES; start += sound.block) {
                int size = Math.min(sound.block, samples - start);
                int c = sound.channels == 1 ? chooseOne(start, size) : chooseTwo(start, size);
                int from = bytes.length;
                writeHead(start, size, c, bySample);
                writeBody(from, c);
                note(from, c);
                frames++;
            }
            tellFrameSizes();
        }

        private void writeInformation() {
            for (int octet : START) {
                out.put(8, octet);
            }
            out.put(8, 128);
            out.put(24, INFORMATION_BYTES);
            out.put(16, sound.block);
            out.put(16, sound.block);
            // the sizes of frames are put here when all frames are written
            out.put(48, 0);
            out.put(20, sound.rate);
            out.put(3, sound.channels - 1);
            out.put(5, sound.depth - 1);
            out.put(36, sound.lengths[0]);
            digest.take(sound);
            for (int i = 0; i < 16; i++) {
                out.put(8, digest.half(i >> 3) >> (8 * (i & 7)));
            }
        }

        private int chooseOne(int start, int size) {
            for (int i = 0; i < size; i++) {
                first.setSample(i, sound.samples[0][start + i]);
            }
            first.choose(size, sound.depth);
            return 0;
        }

        private int chooseTwo(int start, int size) {
            for (int i = 0; i < size; i++) {
                int x = sound.samples[0][start + i];
                int y = sound.samples[1][start + i];
                first.setSample(i, x);
                second.setSample(i, y);
                middle.setSample(i, (x + y) >> 1);
                difference.setSample(i, x - y);
            }
            first.choose(size, sound.depth);
            second.choose(size, sound.depth);
            middle.choose(size, sound.depth);
            difference.choose(size, sound.depth + 1);
            int best = FIRST_AND_SECOND;
            for (int c = FIRST_AND_DIFFERENCE; c <= MIDDLE_AND_DIFFERENCE; c++) {
                if (bitsOfBoth(c) < bitsOfBoth(best)) {
                    best = c;
                }
            }
            return best;
        }

        private long bitsOfBoth(int c) {
            return firstOf(c).bits + secondOf(c).bits;
        }

        private Subframe firstOf(int c) {
            if (c == DIFFERENCE_AND_SECOND) {
                return difference;
            }
            return c == MIDDLE_AND_DIFFERENCE ? middle : first;
        }

        private Subframe secondOf(int c) {
            return c == FIRST_AND_SECOND || c == DIFFERENCE_AND_SECOND ? second : difference;
        }

        private void writeHead(int start, int size, int c, boolean bySample) {
            int from = bytes.length;
            out.put(14, FRAME_START);
            out.put(1, 0);
            out.put(1, bySample ? 1 : 0);
            out.put(4, size <= 256 ? SIZE_IN_ONE_BYTE : SIZE_IN_TWO_BYTES);
            out.put(4, 0);
            out.put(4, c);
            out.put(4, 0);
            int number = bySample ? start : frames;
            for (int i = 0; i < bytesOfNumber(number); i++) {
                out.put(8, byteOfNumber(number, i));
            }
            out.put(size <= 256 ? 8 : 16, size - 1);
            out.put(8, bytes.check(8, from, bytes.length));
        }

        private void writeBody(int from, int c) {
            firstOf(c).write(out);
            if (c != 0) {
                secondOf(c).write(out);
            }
            out.fillByte();
            out.put(16, bytes.check(16, from, bytes.length));
        }

        private void note(int from, int c) {
            int[] row = notes[frames];
            row[0] = from;
            row[1] = bytes.length - from;
            row[2] = c;
            noteSubframe(row, 3, firstOf(c));
            if (c != 0) {
                noteSubframe(row, 6, secondOf(c));
            } else {
                Arrays.fill(row, 6, NOTES, NONE);
            }
        }

        private static void noteSubframe(int[] row, int at, Subframe subframe) {
            row[at] = subframe.type;
            row[at + 1] = subframe.w;
            row[at + 2] = (int) subframe.bits;
        }

        private void tellFrameSizes() {
            int least = frames == 0 ? 0 : notes[0][1];
            int greatest = least;
            for (int k = 1; k < frames; k++) {
                least = Math.min(least, notes[k][1]);
                greatest = Math.max(greatest, notes[k][1]);
            }
            for (int i = 0; i < 3; i++) {
                bytes.set(BYTE_OF_LEAST_FRAME + i, least >> (16 - 8 * i));
                bytes.set(BYTE_OF_GREATEST_FRAME + i, greatest >> (16 - 8 * i));
            }
        }
    }

    /** Reads a stream's bits from the front, and stops by an exception at the first fault. */
    private static final class Reader {
        private final Bytes bytes;
        private int position;
        int fault;
        int place;

        Reader(Bytes bytes) {
            this.bytes = bytes;
        }

        void begin() {
            position = 0;
            place = 0;
            fault = 0;
        }

        int nextByte() {
            return position >> 3;
        }

        boolean hasMore() {
            return nextByte() < bytes.length;
        }

        /** Faults that are met from now on have their place here. */
        void markPlace() {
            place = nextByte();
        }

        void demand(boolean good, int otherwise) {
            if (!good) {
                fault = otherwise;
                throw new IllegalStateException("the stream has a fault");
            }
        }

        /** At most 31 bits. */
        int bits(int n) {
            if (n > 8 * bytes.length - position) {
                fault = FAULT_END;
                throw new IllegalStateException("the stream ends too soon");
            }
            int number = 0;
            for (int i = 0; i < n; i++) {
                number = number << 1 | bytes.get(position >> 3) >> (7 - (position & 7)) & 1;
                position++;
            }
            return number;
        }

        /** At most 31 bits with a sign, 0 for none. */
        int signed(int n) {
            int unused = 32 - n;
            return n == 0 ? 0 : bits(n) << unused >> unused;
        }

        /** The zeros before a one; so many zeros as are too many are a fault, whatever follows them. */
        long zeros(long tooMany, int otherwise) {
            for (long n = 0; n < tooMany; n++) {
                if (bits(1) == 1) {
                    return n;
                }
            }
            demand(false, otherwise);
            return tooMany;
        }

        /** The bits up to the next whole byte, as a number. */
        int bitsToWholeByte() {
            return bits(-position & 7);
        }

        void skipBytes(int n) {
            demand(n <= bytes.length - nextByte(), FAULT_END);
            position += 8 * n;
        }
    }

    /** Reads subframes, with any predictor. */
    private static final class SubframeReader {
        /** Four for each order from 0 on, so that the types without factors have some, too. */
        private static final int[] FIXED_FACTORS = {
            0, 0, 0, 0,
            1, 0, 0, 0,
            2, -1, 0, 0,
            3, -3, 1, 0,
            4, -6, 4, -1
        };

        private final Reader in;
        private final int[] factors = new int[MOST_ORDER];
        private int order;
        private int shift;
        private int width;

        SubframeReader(Reader in) {
            this.in = in;
        }

        /** Samples of so many bits, put into a row from a place on that has room for them. */
        void read(int[] row, int from, int size, int depth) {
            int lead = in.bits(8);
            int type = lead >> 1 & 63;
            in.demand(lead < 128 && isType(type), FAULT_SUBFRAME);
            int w = 0;
            if ((lead & 1) == 1) {
                w = 1 + (int) in.zeros(depth - 1, FAULT_SUBFRAME);
            }
            width = depth - w;
            order = orderOf(type);
            in.demand(order <= size, FAULT_SUBFRAME);
            if (type == TYPE_CONSTANT) {
                Arrays.fill(row, from, from + size, in.signed(width));
            } else {
                readPlain(row, from, type == TYPE_PLAIN ? size : order);
            }
            if (type >= TYPE_FACTORS) {
                readFactors();
            } else if (type >= TYPE_FIXED) {
                useFixedFactors();
            }
            if (type >= TYPE_FIXED) {
                readRests(row, from, size);
            }
            for (int i = from; i < from + size; i++) {
                row[i] <<= w;
            }
        }

        private static boolean isType(int type) {
            return type == TYPE_CONSTANT || type == TYPE_PLAIN || type >= TYPE_FACTORS
                || (type >= TYPE_FIXED && type <= TYPE_FIXED + MOST_FIXED_ORDER);
        }

        private static int orderOf(int type) {
            if (type >= TYPE_FACTORS) {
                return type - TYPE_FACTORS + 1;
            }
            return type >= TYPE_FIXED ? type - TYPE_FIXED : 0;
        }

        private void readPlain(int[] row, int from, int count) {
            for (int i = from; i < from + count; i++) {
                row[i] = in.signed(width);
            }
        }

        private void readFactors() {
            int precision = in.bits(4) + 1;
            in.demand(precision < 16, FAULT_PREDICTION);
            shift = in.signed(5);
            in.demand(shift >= 0, FAULT_PREDICTION);
            for (int j = 0; j < order; j++) {
                factors[j] = in.signed(precision);
            }
        }

        private void useFixedFactors() {
            shift = 0;
            System.arraycopy(FIXED_FACTORS, MOST_FIXED_ORDER * order, factors, 0, MOST_FIXED_ORDER);
        }

        private void readRests(int[] row, int from, int size) {
            int way = in.bits(2);
            in.demand(way <= 1, FAULT_PREDICTION);
            int q = in.bits(4);
            int each = size >> q;
            in.demand(each << q == size && each >= order, FAULT_PREDICTION);
            int i = from + order;
            for (int part = 1; part <= 1 << q; part++) {
                readPart(row, i, from + part * each, 4 + way);
                i = from + part * each;
            }
        }

        private void readPart(int[] row, int from, int to, int bitsOfK) {
            int k = in.bits(bitsOfK);
            boolean escaped = k == (1 << bitsOfK) - 1;
            int n = escaped ? in.bits(5) : 0;
            int limit = 1 << (width - 1);
            for (int i = from; i < to; i++) {
                long rest = escaped ? in.signed(n) : unfold(in.zeros(1L << (32 - k), FAULT_RANGE) << k | in.bits(k));
                long v = predict(row, i) + rest;
                in.demand(v >= -limit && v < limit, FAULT_RANGE);
                row[i] = (int) v;
            }
        }

        private static long unfold(long folded) {
            return (folded & 1) == 0 ? folded >> 1 : -(folded >> 1) - 1;
        }

        private long predict(int[] row, int i) {
            long together = 0;
            for (int j = 0; j < order; j++) {
                together += (long) factors[j] * row[i - 1 - j];
            }
            return together >> shift;
        }
    }

    /** Reads a stream back to its samples. */
    private static final class Decoder {
        /** The depth of each S; the first one is any, and two are none. */
        private static final int[] DEPTHS = {0, 8, 12, NONE, 16, 20, 24, NONE};

        private final Bytes bytes;
        private final Digest digest;
        private final SubframeReader subframes;
        final Reader in;
        final Sound sound;
        private boolean decoded;
        private boolean sumKnown;
        private long sumLow;
        private long sumHigh;
        private int least;
        private int known;
        private int frames;
        private int way;
        private int c;
        private int size;

        Decoder(Bytes bytes, Digest digest) {
            this.bytes = bytes;
            this.digest = digest;
            in = new Reader(bytes);
            subframes = new SubframeReader(in);
            sound = new Sound();
        }

        void begin() {
            in.begin();
            sound.empty();
            decoded = false;
            frames = 0;
            size = 0;
        }

        void refuse() {
            sound.empty();
        }

        boolean hasMore() {
            return in.hasMore();
        }

        /** What told() answers from 2 on. */
        int tell(int what) {
            if (!decoded) {
                return NONE;
            }
            switch (what) {
                case 2:
                    return sound.channels;
                case 3:
                    return sound.depth;
                case 4:
                    return sound.block;
                case 5:
                    return sound.rate;
                case 6:
                    return sound.lengths[0];
                case 7:
                    return frames;
                default:
                    return sumKnown ? 1 : 0;
            }
        }

        void readInformation() {
            in.demand(bytes.length >= START.length, FAULT_START);
            for (int octet : START) {
                in.demand(in.bits(8) == octet, FAULT_START);
            }
            in.markPlace();
            boolean last = in.bits(1) == 1;
            int type = in.bits(7);
            in.demand(in.bits(24) == INFORMATION_BYTES && type == 0, FAULT_BLOCK);
            readSoundInformation();
            // no block is shorter than a byte, so this many are never left out
            for (int i = 0; i < MOST_BYTES && !last; i++) {
                in.markPlace();
                last = in.bits(1) == 1;
                type = in.bits(7);
                int length = in.bits(24);
                in.demand(type != 0 && type != 127, FAULT_BLOCK);
                in.skipBytes(length);
            }
        }

        private void readSoundInformation() {
            int from = in.nextByte();
            least = in.bits(16);
            int greatest = in.bits(16);
            in.skipBytes(6);
            int rate = in.bits(20);
            int channels = in.bits(3) + 1;
            int depth = in.bits(5) + 1;
            long samples = (long) in.bits(18) << 18 | in.bits(18);
            sumLow = readEight();
            sumHigh = readEight();
            in.place = from;
            in.demand(least >= LEAST_BLOCK && least <= greatest && rate > 0, FAULT_INFORMATION);
            in.demand(channels <= MOST_CHANNELS && samples <= MOST_SAMPLES, FAULT_INFORMATION);
            in.demand(depth >= LEAST_DEPTH && depth <= MOST_DEPTH, FAULT_INFORMATION);
            sound.shape(channels, depth, greatest, rate);
            known = (int) samples;
            sumKnown = sumLow != 0 || sumHigh != 0;
        }

        /** Eight bytes, the first one the lowest. */
        private long readEight() {
            long eight = 0;
            for (int i = 0; i < 8; i++) {
                eight |= (long) in.bits(8) << (8 * i);
            }
            return eight;
        }

        void readFrame() {
            in.markPlace();
            readHead();
            int check8 = bytes.check(8, in.place, in.nextByte());
            in.demand(in.bits(8) == check8, FAULT_CHECK8);
            int from = sound.lengths[0];
            boolean firstDiffers = c == DIFFERENCE_AND_SECOND;
            subframes.read(sound.samples[0], from, size, sound.depth + (firstDiffers ? 1 : 0));
            if (sound.channels == 2) {
                boolean secondDiffers = c == FIRST_AND_DIFFERENCE || c == MIDDLE_AND_DIFFERENCE;
                subframes.read(sound.samples[1], from, size, sound.depth + (secondDiffers ? 1 : 0));
                separate(from);
                sound.lengths[1] += size;
            }
            in.demand(in.bitsToWholeByte() == 0, FAULT_CHECK16);
            int check16 = bytes.check(16, in.place, in.nextByte());
            in.demand(in.bits(16) == check16, FAULT_CHECK16);
            sound.lengths[0] += size;
            frames++;
        }

        private void readHead() {
            int lead = in.bits(16);
            boolean sameWay = frames == 0 || way == (lead & 1);
            in.demand(lead >> 1 == FRAME_START << 1 && sameWay, FAULT_FRAME_START);
            way = lead & 1;
            int codes = in.bits(16);
            int b = codes >> 12;
            int r = codes >> 8 & 15;
            c = codes >> 4 & 15;
            in.demand(b != 0 && r != 15 && suitsChannels(), FAULT_FRAME_CODES);
            in.demand(suitsDepth(codes >> 1 & 7) && (codes & 1) == 0, FAULT_FRAME_CODES);
            readNumber(way == 0 ? frames : sound.lengths[0]);
            int before = size;
            size = readSize(b);
            if (r >= 12) {
                in.bits(r == 12 ? 8 : 16);
            }
            in.demand(suitsSize(before), FAULT_SIZE);
        }

        private boolean suitsChannels() {
            return c < 8 ? c == sound.channels - 1 : c <= MIDDLE_AND_DIFFERENCE && sound.channels == 2;
        }

        private boolean suitsDepth(int s) {
            return s == 0 || DEPTHS[s] == sound.depth;
        }

        private void readNumber(int number) {
            for (int i = 0; i < bytesOfNumber(number); i++) {
                in.demand(in.bits(8) == byteOfNumber(number, i), FAULT_NUMBER);
            }
        }

        private int readSize(int b) {
            if (b == SIZE_IN_ONE_BYTE) {
                return in.bits(8) + 1;
            }
            if (b == SIZE_IN_TWO_BYTES) {
                return in.bits(16) + 1;
            }
            if (b == 1) {
                return 192;
            }
            return b < SIZE_IN_ONE_BYTE ? 576 << (b - 2) : 256 << (b - 8);
        }

        private boolean suitsSize(int before) {
            int leastBefore = way == 0 ? sound.block : least;
            int most = known == 0 ? MOST_SAMPLES : known;
            return size <= sound.block && (frames == 0 || before >= leastBefore)
                && size <= most - sound.lengths[0];
        }

        /** Makes the channels out of what the subframes told of both. */
        private void separate(int from) {
            int limit = 1 << (sound.depth - 1);
            for (int i = from; i < from + size; i++) {
                int x = sound.samples[0][i];
                int y = sound.samples[1][i];
                if (c == FIRST_AND_DIFFERENCE) {
                    y = x - y;
                } else if (c == DIFFERENCE_AND_SECOND) {
                    x += y;
                } else if (c == MIDDLE_AND_DIFFERENCE) {
                    // both together are even or odd as their difference is
                    int both = 2 * x + (y & 1);
                    x = (both + y) >> 1;
                    y = (both - y) >> 1;
                }
                in.demand(x >= -limit && x < limit && y >= -limit && y < limit, FAULT_RANGE);
                sound.samples[0][i] = x;
                sound.samples[1][i] = y;
            }
        }

        /** What can be seen only when the stream has ended. */
        void checkWhole() {
            in.markPlace();
            in.demand(sound.lengths[0] >= known, FAULT_SAMPLES);
            digest.take(sound);
            boolean same = digest.half(0) == sumLow && digest.half(1) == sumHigh;
            in.demand(same || !sumKnown, FAULT_SUM);
            decoded = true;
        }
    }
}
