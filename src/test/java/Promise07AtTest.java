/** Promise 7: "Sample i of a channel's row." */
public final class Promise07AtTest {
    private static final Check CHECK = new Check();
    private static final Refusals REFUSALS = new Refusals(CHECK);

    public static void main(String[] args) {
        firstAndLast();
        noSuchSample();
        noSuchChannel();
        CHECK.end();
    }

    private static void firstAndLast() {
        SoundStream x = new SoundStream();
        x.form(2, 24, 16, 1);
        for (int length : new int[] {1, 2, 1199, 1200}) {
            x.clear();
            x.ramp(0, length, 5, 1);
            x.ramp(1, length - 1, -5, -1);
            CHECK.due("the first of " + length, x.at(0, 0), 5);
            CHECK.due("the last of " + length, x.at(0, length - 1), 4 + length);
            CHECK.throwsIndexOutOfBounds("one behind " + length, () -> x.at(0, length));
            if (length > 1) {
                CHECK.due("the last of " + (length - 1), x.at(1, length - 2), -3 - length);
            }
            CHECK.throwsIndexOutOfBounds("one behind " + (length - 1), () -> x.at(1, length - 1));
        }
    }

    private static void noSuchSample() {
        for (int i : new int[] {-1, Integer.MIN_VALUE, 1200, Integer.MAX_VALUE}) {
            REFUSALS.everywhere("at(0, " + i + ")", IndexOutOfBoundsException.class, x -> x.at(0, i));
        }
        REFUSALS.refused("at(0, 0) of an empty row", IndexOutOfBoundsException.class, SoundStream::new, x -> x.at(0, 0));
        REFUSALS.refused("at(1, 41)", IndexOutOfBoundsException.class, Recipes::twoChannels, x -> x.at(1, 41));
        SoundStream x = Recipes.twoChannels();
        x.clear();
        CHECK.throwsIndexOutOfBounds("a sample that was there", () -> x.at(0, 3));
    }

    private static void noSuchChannel() {
        for (int channel : new int[] {-1, 2, Integer.MIN_VALUE, Integer.MAX_VALUE}) {
            REFUSALS.everywhere("at(" + channel + ", 0)", IllegalArgumentException.class, x -> x.at(channel, 0));
            REFUSALS.everywhere("at(" + channel + ", -1): the channel comes first", IllegalArgumentException.class, x -> x.at(channel, -1));
        }
        REFUSALS.refused("at(1, 0) of one channel", IllegalArgumentException.class, Recipes::oneChannel, x -> x.at(1, 0));
        REFUSALS.refused("at(1, 1200) of one channel", IllegalArgumentException.class, Recipes::oneChannel, x -> x.at(1, 1200));
    }
}
