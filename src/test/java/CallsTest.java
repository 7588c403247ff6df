import com.sun.management.ThreadMXBean;
import java.lang.management.ManagementFactory;

/**
 * "An object is used for at most 512 calls after it has been made": the last of them is answered as the first one, and all
 * together stay in the room that one run has.
 */
public final class CallsTest {
    private static final Check CHECK = new Check();
    private static final int MOST_CALLS = 512;
    /** 7.3 million fields and elements, were they all bytes. */
    private static final long ROOM = 7_300_000;

    public static void main(String[] args) {
        dearestCalls();
        faults();
        refusals();
        smallCalls();
        CHECK.end();
    }

    private static long allocated() {
        return ((ThreadMXBean) ManagementFactory.getThreadMXBean()).getCurrentThreadAllocatedBytes();
    }

    private static void fits(String what, long before) {
        long bytes = allocated() - before;
        CHECK.due(what + " take " + bytes + " bytes, which is less than the room", bytes < ROOM ? 1 : 0, 1);
    }

    private static SoundStream full() {
        SoundStream x = new SoundStream();
        x.form(2, 24, 16, 655350);
        x.noise(0, 1200, 99, 24);
        x.noise(1, 1200, 7, 24);
        return x;
    }

    /** The answers are kept and compared later, so that only the calls are counted. */
    private static void dearestCalls() {
        long before = allocated();
        SoundStream x = full();
        long[] answers = new long[MOST_CALLS];
        for (int call = 3; call < MOST_CALLS; call++) {
            int turn = call % 3;
            answers[call] = turn == 0 ? x.encode(true) : turn == 1 ? x.decode() : x.sum(1);
        }
        fits("512 calls of encode(), decode() and sum()", before);
        for (int call = 6; call < MOST_CALLS; call++) {
            CHECK.due("call " + call + " answers as three calls before", answers[call], answers[call - 3]);
        }
        CHECK.due("decode()", answers[4], 1200);
    }

    private static void faults() {
        long before = allocated();
        SoundStream x = full();
        int length = x.encode(true);
        x.spoil(length - 1, x.spoil(length - 1, 0) ^ 1);
        int none = 0;
        for (int call = 6; call < MOST_CALLS - 1; call++) {
            none += x.decode() == SoundStream.NONE ? 1 : 0;
        }
        fits("505 faults", before);
        CHECK.due("all are met", none, MOST_CALLS - 7);
        CHECK.due("the last call", x.fault(), 12);
    }

    private static void refusals() {
        long before = allocated();
        SoundStream x = full();
        int thrown = 0;
        for (int call = 3; call < MOST_CALLS - 1; call++) {
            try {
                x.at(0, 1200);
            } catch (IndexOutOfBoundsException e) {
                thrown++;
            }
        }
        fits("508 exceptions", before);
        CHECK.due("all are thrown", thrown, MOST_CALLS - 4);
        CHECK.due("the last call", x.sample(0, 1), SoundStream.NONE);
    }

    private static void smallCalls() {
        SoundStream x = new SoundStream();
        for (int call = 0; call < MOST_CALLS - 2; call++) {
            CHECK.due("sample() of call " + call, x.sample(0, call), call + 1);
        }
        CHECK.due("the last but one call", x.encode(false), new Rows(1, 16, 8000).ramp(0, 510, 0, 1).stream(64, false).length);
        CHECK.due("the last call", x.decode(), 510);
    }
}
