/** Objects in the states that matter: the empty ones, the full ones and those between. */
final class Recipes {
    interface Recipe {
        SoundStream make();
    }

    static final Recipe[] ALL = {
        SoundStream::new, Recipes::oneChannel, Recipes::twoChannels, Recipes::unevenRows, Recipes::fullRows,
        Recipes::fullStream, Recipes::faulty, Recipes::emptyRowsEncoded
    };
    static final String[] NAMES = {
        "a new object", "one channel", "two channels", "uneven rows", "full rows", "a full stream", "a fault", "empty rows"
    };

    private Recipes() {
    }

    /** 20 samples in two frames, encoded and decoded. */
    static SoundStream oneChannel() {
        SoundStream x = new SoundStream();
        x.form(1, 8, 16, 4000);
        x.noise(0, 20, 5, 6);
        x.encode(false);
        x.decode();
        return x;
    }

    /** 40 samples each in three frames, encoded and decoded; then one more sample each in the rows. */
    static SoundStream twoChannels() {
        SoundStream x = new SoundStream();
        x.form(2, 12, 16, 96000);
        x.noise(0, 40, 5, 9);
        x.ramp(1, 40, -7, 3);
        x.encode(true);
        x.decode();
        x.sample(0, 9);
        x.sample(1, -9);
        return x;
    }

    static SoundStream unevenRows() {
        SoundStream x = twoChannels();
        x.sample(1, 77);
        return x;
    }

    /** Both rows have 1200 samples; the stream is that of less. */
    static SoundStream fullRows() {
        SoundStream x = twoChannels();
        x.ramp(0, 1159, 4, 1);
        x.noise(1, 1159, 4, 8);
        return x;
    }

    /** The stream has 9000 bytes, and what is behind its frames is a fault. */
    static SoundStream fullStream() {
        SoundStream x = new SoundStream();
        x.form(2, 24, 16, 1);
        x.noise(0, 1200, 99, 24);
        x.noise(1, 1200, 7, 24);
        int length = x.encode(true);
        x.decode();
        for (; length < 9000; length = x.told(0)) {
            x.feed(Math.min(8, 9000 - length), 0x1122334455667788L);
        }
        return x;
    }

    /** What was decoded last had a fault, and the stream has changed since. */
    static SoundStream faulty() {
        SoundStream x = twoChannels();
        x.spoil(50, x.spoil(50, 0) ^ 1);
        x.decode();
        x.cut(60);
        return x;
    }

    static SoundStream emptyRowsEncoded() {
        SoundStream x = new SoundStream();
        x.form(2, 4, 1024, 655350);
        x.encode(false);
        x.decode();
        return x;
    }
}
