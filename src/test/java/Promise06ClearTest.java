/** Promise 6: "The rows are empty then." */
public final class Promise06ClearTest {
    private static final Check CHECK = new Check();

    public static void main(String[] args) {
        fullAndEmptyRows();
        formStays();
        streamAndSoundStay();
        CHECK.end();
    }

    private static void fullAndEmptyRows() {
        SoundStream x = Recipes.fullRows();
        x.clear();
        for (int channel = 0; channel < 2; channel++) {
            int one = channel;
            CHECK.due("row " + channel, x.ramp(channel, 0, 0, 0), 0);
            CHECK.throwsIndexOutOfBounds("at(" + channel + ", 0)", () -> x.at(one, 0));
        }
        x.clear();
        CHECK.due("empty rows stay empty", x.ramp(0, 0, 0, 0), 0);
        CHECK.due("all the room is there again", x.ramp(1, 1200, 0, 0), 1200);
        x.clear();
        x.sample(0, 5);
        x.sample(1, 6);
        CHECK.due("what comes then is sample 0", x.at(1, 0), 6);
        CHECK.throwsIndexOutOfBounds("and there is no other", () -> x.at(1, 1));
        SoundStream uneven = Recipes.unevenRows();
        CHECK.throwsIllegalState("rows that are not alike", () -> uneven.sum(0));
        uneven.clear();
        CHECK.due("empty rows are alike: the sum of none", uneven.sum(0), 338333539836370388L);
    }

    private static void formStays() {
        SoundStream x = new SoundStream();
        x.form(2, 9, 17, 655349);
        x.ramp(0, 30, 0, 1);
        x.clear();
        x.sample(1, 256);
        CHECK.due("the depth", x.at(1, 0), -256);
        x.clear();
        x.encode(true);
        x.decode();
        int[] due = {2, 9, 17, 655349, 0};
        for (int i = 0; i < due.length; i++) {
            CHECK.due("told(" + (2 + i) + ")", x.told(2 + i), due[i]);
        }
    }

    private static void streamAndSoundStay() {
        SoundStream x = Recipes.oneChannel();
        int bytes = x.told(0);
        long frame = x.stream(42);
        int heard = x.heard(0, 19);
        x.clear();
        CHECK.due("the stream's bytes", x.told(0), bytes);
        CHECK.due("the stream", x.stream(42), frame);
        CHECK.due("what was encoded", x.told(1), 2);
        CHECK.due("what was decoded", x.told(6), 20);
        CHECK.due("what is heard", x.heard(0, 19), heard);
    }
}
