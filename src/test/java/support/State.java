import java.util.ArrayList;
import java.util.List;

/** What can be seen of an object from outside, in so few calls that an object is never used for more than 512. */
final class State {
    private interface Call {
        long run();
    }

    private final SoundStream x;
    private final List<String> seen = new ArrayList<>();

    private State(SoundStream x) {
        this.x = x;
    }

    /** Calls that change nothing. */
    static List<String> of(SoundStream x) {
        State state = new State(x);
        state.look();
        return state.seen;
    }

    /** The form shows only in what is encoded; so this changes the rows and the stream. */
    static List<String> afterUse(SoundStream x) {
        State state = new State(x);
        state.see("decode()", x::decode);
        state.see("fault()", x::fault);
        state.see("place()", x::place);
        state.see("told(6)", () -> x.told(6));
        state.see("sample(0, ..)", () -> x.sample(0, 123456789));
        state.see("sample(1, ..)", () -> x.sample(1, -123456789));
        state.see("encode(true)", () -> x.encode(true));
        x.clear();
        state.see("encode(false)", () -> x.encode(false));
        state.see("decode()", x::decode);
        state.look();
        return state.seen;
    }

    private void look() {
        for (int channel = 0; channel < 2; channel++) {
            look(channel);
        }
        for (int half = 0; half < 2; half++) {
            int one = half;
            see("sum(" + half + ")", () -> x.sum(one));
        }
        for (int what = 0; what <= 8; what++) {
            int one = what;
            see("told(" + what + ")", () -> x.told(one));
        }
        int frames = x.told(1);
        for (int what = 0; what <= 8; what++) {
            int one = what;
            see("frame(0, " + what + ")", () -> x.frame(0, one));
            see("frame(last, " + what + ")", () -> x.frame(frames - 1, one));
        }
        int bytes = x.told(0);
        for (int i = 0; i < 15; i++) {
            int from = i < 10 ? 8 * i : bytes - 8 * (i - 9);
            see("stream(" + from + ")", () -> x.stream(from));
        }
        see("fault()", x::fault);
        see("place()", x::place);
    }

    private void look(int channel) {
        // a ramp of no samples tells how many there are
        see("ramp(" + channel + ", 0, 0, 0)", () -> x.ramp(channel, 0, 0, 0));
        int heard = x.told(6);
        for (int i : new int[] {0, 1, 19, 40, 41, 1199}) {
            see("at(" + channel + ", " + i + ")", () -> x.at(channel, i));
        }
        for (int i : new int[] {0, 1, heard - 1, heard}) {
            see("heard(" + channel + ", " + i + ")", () -> x.heard(channel, i));
        }
    }

    private void see(String what, Call call) {
        String answer;
        try {
            answer = String.valueOf(call.run());
        } catch (RuntimeException e) {
            answer = "throws." + e.getClass().getSimpleName();
        }
        seen.add(what + " " + answer);
    }
}
