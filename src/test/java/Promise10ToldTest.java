/** Promise 10: what is told of the stream (0), of what was encoded last (1), and of what was decoded last (2 .. 8). */
public final class Promise10ToldTest {
    private static final Check CHECK = new Check();
    private static final Refusals REFUSALS = new Refusals(CHECK);

    public static void main(String[] args) {
        bytes();
        frames();
        zeroIfNothingWasEncoded();
        decoded();
        theEdgesOfWhatIsDecoded();
        sumKnownOrNot();
        noneIfNothingWasDecoded();
        noneBehindAFault();
        anotherWhat();
        CHECK.end();
    }

    private static void decodedIs(String what, SoundStream x, int... due) {
        for (int i = 0; i < 7; i++) {
            CHECK.due(what + ", told(" + (2 + i) + ")", x.told(2 + i), due[i]);
        }
    }

    private static void nothingIsDecoded(String what, SoundStream x) {
        decodedIs(what, x, -1, -1, -1, -1, -1, -1, -1);
    }

    private static void bytes() {
        SoundStream x = new SoundStream();
        CHECK.due("of an empty stream", x.told(0), 0);
        x.feed(5, 1);
        CHECK.due("behind feed()", x.told(0), 5);
        x.spoil(4, 1);
        x.seal(8, 0, 1);
        CHECK.due("behind spoil() and seal()", x.told(0), 5);
        x.cut(3);
        CHECK.due("behind cut()", x.told(0), 3);
        CHECK.due("behind encode()", x.encode(false), x.told(0));
        CHECK.due("of a full stream", Recipes.fullStream().told(0), 9000);
    }

    private static void frames() {
        SoundStream x = new SoundStream();
        x.form(1, 8, 16, 1);
        int[][] due = {{0, 0}, {1, 1}, {15, 1}, {16, 1}, {17, 2}, {32, 2}, {33, 3}, {1199, 75}, {1200, 75}};
        for (int[] e : due) {
            x.clear();
            x.ramp(0, e[0], 1, 1);
            x.encode(true);
            CHECK.due("frames of " + e[0] + " samples", x.told(1), e[1]);
        }
        x.form(1, 8, 1024, 1);
        x.ramp(0, 1024, 1, 1);
        x.encode(false);
        CHECK.due("frames of 1024 samples in blocks of 1024", x.told(1), 1);
        x.sample(0, 1);
        CHECK.due("a sample more tells nothing before encode()", x.told(1), 1);
        x.encode(false);
        CHECK.due("frames of 1025 samples in blocks of 1024", x.told(1), 2);
        x.cut(0);
        x.clear();
        x.decode();
        CHECK.due("of what was encoded last, whatever became of the stream", x.told(1), 2);
        SoundStream uneven = Recipes.unevenRows();
        CHECK.throwsIllegalState("encode() of uneven rows", () -> uneven.encode(true));
        CHECK.due("what was refused was not encoded", uneven.told(1), 3);
    }

    private static void zeroIfNothingWasEncoded() {
        SoundStream x = new SoundStream();
        CHECK.due("of a new object", x.told(1), 0);
        SoundStream fed = new Maker().start().frameOf(3).fed();
        fed.decode();
        CHECK.due("what is decoded is not encoded", fed.told(1), 0);
        CHECK.due("but it has a frame", fed.told(7), 1);
    }

    private static void decoded() {
        SoundStream x = new SoundStream();
        x.form(2, 10, 16, 123456);
        x.ramp(0, 40, 0, 1);
        x.ramp(1, 40, 0, 3);
        x.encode(true);
        nothingIsDecoded("encoded and not decoded", x);
        x.decode();
        decodedIs("decoded", x, 2, 10, 16, 123456, 40, 3, 1);
        x.form(1, 5, 20, 9);
        x.sample(0, 1);
        x.encode(false);
        x.cut(5);
        decodedIs("whatever is done but for decode()", x, 2, 10, 16, 123456, 40, 3, 1);
    }

    private static void theEdgesOfWhatIsDecoded() {
        Maker least = new Maker();
        least.rate = 1;
        least.depth = 4;
        SoundStream x = least.start().fed();
        x.decode();
        decodedIs("the least", x, 1, 4, 16, 1, 0, 0, 0);
        Maker most = new Maker();
        most.channels = 2;
        most.c = 10;
        most.rate = 1048575;
        most.depth = 24;
        most.least = 16;
        most.greatest = 65535;
        most.b = 7;
        most.size = 1200;
        most.samples = 1200;
        SoundStream y = most.start().frameOf(0).fed();
        y.decode();
        decodedIs("the most", y, 2, 24, 65535, 1048575, 1200, 1, 0);
    }

    private static void sumKnownOrNot() {
        SoundStream empty = Recipes.emptyRowsEncoded();
        decodedIs("no samples, and their sum", empty, 2, 4, 1024, 655350, 0, 0, 1);
        SoundStream x = Recipes.oneChannel();
        CHECK.due("the sum is known", x.told(8), 1);
        for (int i = 26; i < 42; i++) {
            x.spoil(i, 0);
        }
        x.decode();
        CHECK.due("16 bytes 0", x.told(8), 0);
        CHECK.due("and all is decoded", x.told(6), 20);
    }

    private static void noneIfNothingWasDecoded() {
        nothingIsDecoded("a new object", new SoundStream());
        SoundStream x = new SoundStream();
        x.encode(true);
        nothingIsDecoded("only encoded", x);
    }

    private static void noneBehindAFault() {
        SoundStream x = Recipes.twoChannels();
        int length = x.told(0);
        decodedIs("without a fault", x, 2, 12, 16, 96000, 40, 3, 1);
        int last = x.spoil(length - 1, 0);
        x.spoil(length - 1, last ^ 1);
        x.decode();
        nothingIsDecoded("a fault in the last byte", x);
        CHECK.due("what was encoded stays", x.told(1), 3);
        x.spoil(length - 1, last);
        nothingIsDecoded("mended and not decoded again", x);
        x.decode();
        decodedIs("decoded again", x, 2, 12, 16, 96000, 40, 3, 1);
        x.cut(x.frame(2, 0));
        x.decode();
        nothingIsDecoded("less samples than are known", x);
    }

    private static void anotherWhat() {
        for (int what : new int[] {-1, 9, 10, Integer.MIN_VALUE, Integer.MAX_VALUE}) {
            REFUSALS.everywhere("told(" + what + ")", IllegalArgumentException.class, x -> x.told(what));
        }
    }
}
