import java.util.Arrays;

/** What decode(), fault(), place() and the calls behind them answer for a stream that is right, and for one with a fault. */
final class Decoding {
    private final Check check;

    Decoding(Check check) {
        this.check = check;
    }

    void right(String what, Maker m, int samples) {
        right(what, m.fed(), samples);
    }

    void right(String what, SoundStream x, int samples) {
        check.due(what + ": decode()", x.decode(), samples);
        check.due(what + ": fault()", x.fault(), 0);
        check.due(what + ": place()", x.place(), -1);
        check.due(what + ": told(6)", x.told(6), samples);
    }

    void wrong(String what, Maker m, int fault, int place) {
        wrong(what, m.fed(), fault, place);
    }

    void wrong(String what, SoundStream x, int fault, int place) {
        check.due(what + ": decode()", x.decode(), -1);
        check.due(what + ": fault()", x.fault(), fault);
        check.due(what + ": place()", x.place(), place);
        check.due(what + ": told(2)", x.told(2), -1);
        check.throwsIndexOutOfBounds(what + ": heard(0, 0)", () -> x.heard(0, 0));
        check.throwsIndexOutOfBounds(what + ": heard(1, 0)", () -> x.heard(1, 0));
    }

    /** "As soon as the bits for it are read, before the next ones are (13 if they are not there)": so many bytes are enough. */
    void firstMet(String what, Maker m, int fault, int place, int bytes) {
        m.out.align();
        byte[] all = m.out.bytes();
        wrong(what, m, fault, place);
        wrong(what + ", in just as many bytes", Maker.fed(Arrays.copyOf(all, bytes)), fault, place);
        wrong(what + ", in one byte less", Maker.fed(Arrays.copyOf(all, bytes - 1)), 13, place);
    }
}
