/**
 * Promise 15: "Byte i of the stream becomes another one. Answers what it was. IndexOutOfBoundsException: there is no byte
 * i. IllegalArgumentException: v is not 0 .. 255."
 */
public final class Promise15SpoilTest {
    private static final Check CHECK = new Check();
    private static final Refusals REFUSALS = new Refusals(CHECK);

    public static void main(String[] args) {
        everyByte();
        firstAndLast();
        noSuchByte();
        wrongValue();
        CHECK.end();
    }

    private static void everyByte() {
        SoundStream x = new SoundStream();
        x.feed(3, 0x332211);
        int before = 0x22;
        for (int v = 255; v >= 0; v--) {
            CHECK.due("spoil(1, " + v + ")", x.spoil(1, v), before);
            before = v;
        }
        CHECK.due("the others stay", x.stream(0), 0x330011);
    }

    private static void firstAndLast() {
        SoundStream x = new SoundStream();
        x.feed(8, 0x8877665544332211L);
        x.feed(4, 0x00000000ccbbaa99L);
        CHECK.due("the first", x.spoil(0, 255), 0x11);
        CHECK.due("the same again", x.spoil(0, 255), 255);
        CHECK.due("the last", x.spoil(11, 0), 0xcc);
        CHECK.due("stream(0)", x.stream(0), 0x88776655443322ffL);
        CHECK.due("stream(8)", x.stream(8), 0x00bbaa99L);
        CHECK.due("no byte more, none less", x.told(0), 12);
        SoundStream full = Recipes.fullStream();
        full.spoil(8999, 77);
        CHECK.due("the last of 9000", full.spoil(8999, 78), 77);
        SoundStream one = Recipes.oneChannel();
        one.spoil(0, 1);
        CHECK.due("what was decoded stays", one.told(6), 20);
        CHECK.due("until decode()", one.decode(), -1);
    }

    private static void noSuchByte() {
        for (int i : new int[] {-1, Integer.MIN_VALUE, 9000, Integer.MAX_VALUE}) {
            REFUSALS.everywhere("spoil(" + i + ", 1)", IndexOutOfBoundsException.class, x -> x.spoil(i, 1));
            REFUSALS.everywhere("spoil(" + i + ", 256): the byte comes first", IndexOutOfBoundsException.class, x -> x.spoil(i, 256));
            REFUSALS.everywhere("spoil(" + i + ", -1): the byte comes first", IndexOutOfBoundsException.class, x -> x.spoil(i, -1));
        }
        REFUSALS.refused("spoil(0, 0) of none", IndexOutOfBoundsException.class, SoundStream::new, x -> x.spoil(0, 0));
        REFUSALS.refused("the byte behind the last", IndexOutOfBoundsException.class, Recipes::twoChannels, x -> x.spoil(x.told(0), 0));
        REFUSALS.refused("a byte that was cut", IndexOutOfBoundsException.class, Recipes::faulty, x -> x.spoil(60, 0));
    }

    private static void wrongValue() {
        for (int v : new int[] {-1, 256, Integer.MIN_VALUE, Integer.MAX_VALUE, 511, -256}) {
            REFUSALS.refused("spoil(0, " + v + ")", IllegalArgumentException.class, Recipes::twoChannels, x -> x.spoil(0, v));
            REFUSALS.refused("spoil(8999, " + v + ")", IllegalArgumentException.class, Recipes::fullStream, x -> x.spoil(8999, v));
            REFUSALS.refused("spoil(41, " + v + ")", IllegalArgumentException.class, Recipes::emptyRowsEncoded, x -> x.spoil(41, v));
        }
    }
}
