/**
 * Promise 14: "The stream's first n bytes stay. Answers how many it had. IllegalArgumentException: n is below 0, or above
 * their number."
 */
public final class Promise14CutTest {
    private static final Check CHECK = new Check();
    private static final Refusals REFUSALS = new Refusals(CHECK);

    public static void main(String[] args) {
        firstBytesStay();
        emptyStream();
        fullStream();
        nothingElseChanges();
        wrongNumber();
        CHECK.end();
    }

    private static void firstBytesStay() {
        SoundStream x = new SoundStream();
        x.feed(8, 0x8877665544332211L);
        x.feed(4, 0x00000000ccbbaa99L);
        CHECK.due("all stay", x.cut(12), 12);
        CHECK.due("stream(8)", x.stream(8), 0xccbbaa99L);
        CHECK.due("all but the last", x.cut(11), 12);
        CHECK.due("stream(8) then", x.stream(8), 0xbbaa99L);
        CHECK.throwsIllegalArgument("12 of 11", () -> x.cut(12));
        CHECK.due("told(0)", x.told(0), 11);
        CHECK.due("the first one stays", x.cut(1), 11);
        CHECK.due("stream(0)", x.stream(0), 0x11);
        CHECK.due("none stays", x.cut(0), 1);
        CHECK.due("stream(0) of none", x.stream(0), 0);
        CHECK.due("what comes then is byte 0", x.feed(1, 7), 1);
        CHECK.due("stream(0) again", x.stream(0), 7);
    }

    private static void emptyStream() {
        SoundStream x = new SoundStream();
        CHECK.due("none of none", x.cut(0), 0);
        CHECK.throwsIllegalArgument("one of none", () -> x.cut(1));
        CHECK.throwsIllegalArgument("-1 of none", () -> x.cut(-1));
        CHECK.due("told(0)", x.told(0), 0);
    }

    private static void fullStream() {
        SoundStream x = Recipes.fullStream();
        CHECK.throwsIllegalArgument("9001 of 9000", () -> x.cut(9001));
        CHECK.due("9000 of 9000", x.cut(9000), 9000);
        CHECK.due("8999 of 9000", x.cut(8999), 9000);
        CHECK.due("room for one", x.feed(1, 5), 9000);
    }

    private static void nothingElseChanges() {
        SoundStream x = Recipes.oneChannel();
        int heard = x.heard(0, 19);
        x.cut(0);
        CHECK.due("frames encoded", x.told(1), 2);
        CHECK.due("a frame encoded", x.frame(1, 2), 0);
        CHECK.due("samples decoded", x.told(6), 20);
        CHECK.due("heard(0, 19)", x.heard(0, 19), heard);
        CHECK.due("fault()", x.fault(), 0);
        CHECK.due("at(0, 19)", x.at(0, 19), heard);
    }

    private static void wrongNumber() {
        for (int n : new int[] {-1, Integer.MIN_VALUE, 9001, Integer.MAX_VALUE}) {
            REFUSALS.everywhere("cut(" + n + ")", IllegalArgumentException.class, x -> x.cut(n));
        }
        REFUSALS.refused("one too many", IllegalArgumentException.class, Recipes::oneChannel, x -> x.cut(x.told(0) + 1));
        REFUSALS.refused("43 of 42", IllegalArgumentException.class, Recipes::emptyRowsEncoded, x -> x.cut(43));
    }
}
