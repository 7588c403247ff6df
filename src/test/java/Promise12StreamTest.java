/** Promise 12: "Eight bytes of the stream from byte i on, the first one the lowest; 0 for those that it has not." */
public final class Promise12StreamTest {
    private static final Check CHECK = new Check();

    public static void main(String[] args) {
        bytes();
        beforeTheFirst();
        behindTheLast();
        emptyStream();
        fullStream();
        bytesThatWereThere();
        CHECK.end();
    }

    private static SoundStream withTwelve() {
        SoundStream x = new SoundStream();
        x.feed(8, 0x8877665544332211L);
        x.feed(4, 0x00000000ccbbaa99L);
        return x;
    }

    private static void bytes() {
        SoundStream x = withTwelve();
        CHECK.due("stream(0)", x.stream(0), 0x8877665544332211L);
        CHECK.due("stream(3)", x.stream(3), 0xbbaa998877665544L);
        CHECK.due("stream(4), the last eight", x.stream(4), 0xccbbaa9988776655L);
    }

    private static void beforeTheFirst() {
        SoundStream x = withTwelve();
        CHECK.due("stream(-1)", x.stream(-1), 0x7766554433221100L);
        CHECK.due("stream(-3)", x.stream(-3), 0x5544332211000000L);
        CHECK.due("stream(-7)", x.stream(-7), 0x1100000000000000L);
        CHECK.due("stream(-8)", x.stream(-8), 0);
        CHECK.due("stream(-9)", x.stream(-9), 0);
        for (int i = 0; i < 16; i++) {
            CHECK.due("stream(MIN + " + i + ")", x.stream(Integer.MIN_VALUE + i), 0);
        }
    }

    private static void behindTheLast() {
        SoundStream x = withTwelve();
        CHECK.due("stream(5)", x.stream(5), 0x00ccbbaa99887766L);
        CHECK.due("stream(8)", x.stream(8), 0xccbbaa99L);
        CHECK.due("stream(11)", x.stream(11), 0xccL);
        CHECK.due("stream(12)", x.stream(12), 0);
        for (int i = 0; i < 16; i++) {
            CHECK.due("stream(MAX - " + i + ")", x.stream(Integer.MAX_VALUE - i), 0);
        }
        SoundStream three = new SoundStream();
        three.feed(3, 0xffffffffffc3c2c1L);
        CHECK.due("three bytes in the midst", three.stream(-2), 0xc3c2c10000L);
    }

    private static void emptyStream() {
        SoundStream x = new SoundStream();
        for (int i = -9; i <= 9; i++) {
            CHECK.due("stream(" + i + ") of none", x.stream(i), 0);
        }
    }

    private static void fullStream() {
        SoundStream x = Recipes.fullStream();
        CHECK.due("the last eight", x.stream(8992) != 0 ? 1 : 0, 1);
        CHECK.due("the last one", x.stream(8999), x.stream(8992) >>> 56);
        CHECK.due("none behind it", x.stream(9000), 0);
        CHECK.due("the first one", x.stream(-7), 102L << 56);
    }

    private static void bytesThatWereThere() {
        SoundStream x = withTwelve();
        x.cut(2);
        CHECK.due("bytes that were cut", x.stream(0), 0x2211);
        x.feed(1, 5);
        CHECK.due("are not there again", x.stream(1), 0x0522);
        SoundStream y = Recipes.fullStream();
        y.clear();
        y.encode(false);
        CHECK.due("a shorter stream came", y.stream(42), 0);
        CHECK.due("and has 42 bytes", y.stream(41) & ~255L, 0);
    }
}
