import java.util.ArrayList;
import java.util.List;

/** Rows of samples that a test knows without asking, and that new objects get in few calls. */
final class Rows {
    private interface Change {
        void on(SoundStream x);
    }

    final int channels;
    final int depth;
    final int rate;
    final int[][] samples = new int[2][1200];
    private final int[] lengths = new int[2];
    private final List<Change> calls = new ArrayList<>();

    Rows(int channels, int depth, int rate) {
        this.channels = channels;
        this.depth = depth;
        this.rate = rate;
    }

    /** As many samples as the first row has; the document speaks of rows alike in length. */
    int length() {
        return lengths[0];
    }

    /** How many calls an object takes to get these rows, its form as well. */
    int calls() {
        return 1 + calls.size();
    }

    Rows ramp(int channel, int n, int v, int step) {
        for (int i = 0; i < n; i++) {
            behind(channel, v + i * step);
        }
        calls.add(x -> x.ramp(channel, n, v, step));
        return this;
    }

    Rows noise(int channel, int n, int seed, int bits) {
        int x = seed;
        for (int i = 0; i < n; i++) {
            x = 1103515245 * x + 12345;
            behind(channel, Math.floorDiv(x, 1L << (32 - bits)));
        }
        calls.add(y -> y.noise(channel, n, seed, bits));
        return this;
    }

    /** Any samples: each call takes as many as go up by the same step, and that are two at least. */
    Rows these(int channel, int... numbers) {
        for (int i = 0; i < numbers.length;) {
            int step = i + 1 < numbers.length ? numbers[i + 1] - numbers[i] : 0;
            int n = 1;
            while (i + n < numbers.length && numbers[i + n] - numbers[i + n - 1] == step) {
                n++;
            }
            ramp(channel, n, numbers[i], step);
            i += n;
        }
        return this;
    }

    private void behind(int channel, long number) {
        long range = 1L << depth;
        samples[channel][lengths[channel]++] = (int) (Math.floorMod(number + range / 2, range) - range / 2);
    }

    SoundStream make(int block) {
        SoundStream x = new SoundStream();
        x.form(channels, depth, block, rate);
        for (Change each : calls) {
            each.on(x);
        }
        return x;
    }

    SoundStream encoded(int block, boolean v) {
        SoundStream x = make(block);
        x.encode(v);
        return x;
    }

    byte[] sum() {
        long[][] wide = new long[channels][length()];
        for (int c = 0; c < channels; c++) {
            for (int i = 0; i < length(); i++) {
                wide[c][i] = samples[c][i];
            }
        }
        return PlainDecoder.sum(wide, channels, length(), depth);
    }

    /** The stream that is due. */
    byte[] stream(int block, boolean v) {
        int[][] all = new int[channels][];
        for (int c = 0; c < channels; c++) {
            all[c] = java.util.Arrays.copyOf(samples[c], length());
        }
        return new PlainEncoder(all, depth, block, rate, sum()).encode(v);
    }
}
