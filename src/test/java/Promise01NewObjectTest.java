/** Promise 1: "The form 1, 16, 64, 8000; empty rows, an empty stream; nothing was decoded." */
public final class Promise01NewObjectTest {
    private static final Check CHECK = new Check();

    public static void main(String[] args) {
        none();
        channelsAndDepth();
        blockAndRate();
        emptyRows();
        emptyStream();
        nothingEncoded();
        nothingDecoded();
        objectsAreApart();
        CHECK.end();
    }

    private static void none() {
        CHECK.due("NONE", SoundStream.NONE, -1);
    }

    private static void channelsAndDepth() {
        SoundStream x = new SoundStream();
        CHECK.throwsIllegalArgument("a new object's second channel", () -> x.sample(1, 0));
        CHECK.throwsIllegalArgument("at of a second channel", () -> x.at(1, 0));
        int[] given = {32767, 32768, -32768, -32769};
        int[] due = {32767, -32768, -32768, 32767};
        for (int i = 0; i < 4; i++) {
            CHECK.due("sample(0, " + given[i] + ")", x.sample(0, given[i]), i + 1);
            CHECK.due(given[i] + " in 16 bits", x.at(0, i), due[i]);
        }
    }

    private static void blockAndRate() {
        SoundStream x = new SoundStream();
        x.ramp(0, 64, 1, 1);
        x.encode(false);
        CHECK.due("a block of 64 is one frame", x.told(1), 1);
        x.sample(0, 1);
        x.encode(false);
        CHECK.due("65 samples are two frames", x.told(1), 2);
        x.decode();
        int[] due = {1, 16, 64, 8000};
        for (int i = 0; i < 4; i++) {
            CHECK.due("a new object's form, told(" + (2 + i) + ")", x.told(2 + i), due[i]);
        }
    }

    private static void emptyRows() {
        SoundStream x = new SoundStream();
        CHECK.throwsIndexOutOfBounds("at(0, 0)", () -> x.at(0, 0));
        CHECK.due("a row without samples", x.ramp(0, 0, 5, 5), 0);
        CHECK.due("the sum of none", x.sum(0), 338333539836370388L);
        CHECK.due("the sum of none, the other half", x.sum(1), 9098107892288553193L);
        CHECK.due("the stream of no samples", x.encode(false), 42);
        CHECK.due("its first bytes", x.stream(0), 2449958748175813734L);
    }

    private static void emptyStream() {
        SoundStream x = new SoundStream();
        CHECK.due("told(0)", x.told(0), 0);
        CHECK.due("stream(0)", x.stream(0), 0);
        CHECK.due("cut(0)", x.cut(0), 0);
        CHECK.throwsIllegalArgument("cut(1)", () -> x.cut(1));
        CHECK.throwsIndexOutOfBounds("spoil(0, 0)", () -> x.spoil(0, 0));
        CHECK.throwsIndexOutOfBounds("seal(8, 0, 0)", () -> {
            x.seal(8, 0, 0);
            return 0;
        });
        CHECK.due("decode()", x.decode(), -1);
        CHECK.due("fault() of an empty stream", x.fault(), 1);
        CHECK.due("place() of an empty stream", x.place(), 0);
        CHECK.due("the first byte that comes", x.feed(1, 9), 1);
    }

    private static void nothingEncoded() {
        SoundStream x = new SoundStream();
        CHECK.due("told(1)", x.told(1), 0);
        for (int what = 0; what <= 8; what++) {
            int one = what;
            CHECK.throwsIndexOutOfBounds("frame(0, " + what + ")", () -> x.frame(0, one));
        }
    }

    private static void nothingDecoded() {
        SoundStream x = new SoundStream();
        CHECK.due("fault()", x.fault(), 0);
        CHECK.due("place()", x.place(), -1);
        for (int what = 2; what <= 8; what++) {
            CHECK.due("told(" + what + ")", x.told(what), -1);
        }
        CHECK.throwsIndexOutOfBounds("heard(0, 0)", () -> x.heard(0, 0));
        CHECK.throwsIndexOutOfBounds("heard(1, 0)", () -> x.heard(1, 0));
    }

    private static void objectsAreApart() {
        SoundStream used = Recipes.twoChannels();
        SoundStream x = new SoundStream();
        CHECK.due("a new object beside a used one", State.of(x).equals(State.of(new SoundStream())) ? 1 : 0, 1);
        x.form(1, 4, 16, 1);
        x.ramp(0, 100, 3, 3);
        x.encode(false);
        x.decode();
        CHECK.due("a used object beside a new one", State.of(used).equals(State.of(Recipes.twoChannels())) ? 1 : 0, 1);
    }
}
