import java.util.Arrays;

/** Promise 2: "Another form; the rows are empty then. IllegalArgumentException: there is none such." */
public final class Promise02FormTest {
    private static final Check CHECK = new Check();
    private static final Refusals REFUSALS = new Refusals(CHECK);

    public static void main(String[] args) {
        justInside();
        justOutside();
        rowsAreEmptyThen();
        nothingElseChanges();
        CHECK.end();
    }

    private static void justInside() {
        int[][] forms = {
            {1, 16, 64, 8000}, {2, 16, 64, 8000}, {1, 4, 64, 8000}, {1, 24, 64, 8000}, {1, 16, 16, 8000}, {1, 16, 1024, 8000},
            {1, 16, 64, 1}, {1, 16, 64, 655350}, {1, 4, 16, 1}, {2, 24, 1024, 655350}, {2, 5, 17, 2}, {2, 23, 1023, 655349}
        };
        for (int[] e : forms) {
            SoundStream x = new SoundStream();
            x.form(e[0], e[1], e[2], e[3]);
            String form = "form" + Arrays.toString(e);
            int greatest = (1 << (e[1] - 1)) - 1;
            for (int channel = 0; channel < e[0]; channel++) {
                CHECK.due(form + ": the greatest sample", x.sample(channel, greatest), 1);
                CHECK.due(form + ": the greatest sample stays", x.at(channel, 0), greatest);
                x.sample(channel, greatest + 1);
                CHECK.due(form + ": one more wraps around", x.at(channel, 1), -greatest - 1);
                x.ramp(channel, e[2] - 2, 0, 1);
            }
            x.encode(false);
            CHECK.due(form + ": a block is a frame", x.told(1), 1);
            CHECK.due(form + ": decode()", x.decode(), e[2]);
            for (int i = 0; i < 4; i++) {
                CHECK.due(form + ": told(" + (2 + i) + ")", x.told(2 + i), e[i]);
            }
            for (int channel = 0; channel < e[0]; channel++) {
                x.sample(channel, 1);
            }
            x.encode(true);
            CHECK.due(form + ": one sample more is a second frame", x.told(1), 2);
        }
    }

    private static void justOutside() {
        int[][] wrong = {
            {0, 16, 64, 8000}, {3, 16, 64, 8000}, {-1, 16, 64, 8000}, {Integer.MIN_VALUE, 16, 64, 8000}, {Integer.MAX_VALUE, 16, 64, 8000},
            {1, 3, 64, 8000}, {1, 25, 64, 8000}, {1, 0, 64, 8000}, {1, -16, 64, 8000}, {2, 32, 64, 8000}, {2, Integer.MIN_VALUE, 64, 8000},
            {1, 16, 15, 8000}, {1, 16, 1025, 8000}, {1, 16, 0, 8000}, {1, 16, -64, 8000}, {2, 16, Integer.MAX_VALUE, 8000},
            {1, 16, 64, 0}, {1, 16, 64, 655351}, {1, 16, 64, -1}, {2, 16, 64, Integer.MAX_VALUE}, {2, 16, 64, Integer.MIN_VALUE},
            {0, 0, 0, 0}, {3, 25, 1025, 655351}
        };
        for (int[] e : wrong) {
            REFUSALS.everywhere("form" + Arrays.toString(e), IllegalArgumentException.class, x -> {
                x.form(e[0], e[1], e[2], e[3]);
                return 0;
            });
        }
    }

    private static void rowsAreEmptyThen() {
        SoundStream x = new SoundStream();
        x.ramp(0, 1200, 1, 1);
        x.form(1, 16, 64, 8000);
        CHECK.due("the same form empties a full row", x.ramp(0, 0, 0, 0), 0);
        CHECK.throwsIndexOutOfBounds("there is no sample 0", () -> x.at(0, 0));
        x.form(2, 16, 64, 8000);
        x.ramp(0, 30, 1, 1);
        x.ramp(1, 31, 1, 1);
        x.form(1, 16, 64, 8000);
        CHECK.due("the first row", x.ramp(0, 0, 0, 0), 0);
        CHECK.throwsIllegalArgument("there is no second row", () -> x.at(1, 0));
        x.form(2, 16, 64, 8000);
        CHECK.due("the first row of two", x.ramp(0, 0, 0, 0), 0);
        CHECK.due("the second row does not come back", x.ramp(1, 0, 0, 0), 0);
        CHECK.due("empty rows are alike in length", x.encode(false), 42);
    }

    private static void nothingElseChanges() {
        SoundStream x = Recipes.oneChannel();
        int bytes = x.told(0);
        long head = x.stream(40);
        x.form(2, 24, 1024, 655350);
        CHECK.due("the stream's bytes", x.told(0), bytes);
        CHECK.due("the stream", x.stream(40), head);
        CHECK.due("frames encoded", x.told(1), 2);
        int[] due = {1, 8, 16, 4000, 20, 2, 1};
        for (int i = 0; i < due.length; i++) {
            CHECK.due("what was decoded, told(" + (2 + i) + ")", x.told(2 + i), due[i]);
        }
        CHECK.throwsIndexOutOfBounds("heard(0, 20)", () -> x.heard(0, 20));
        CHECK.due("decode() as before", x.decode(), 20);
    }
}
