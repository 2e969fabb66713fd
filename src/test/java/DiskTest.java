/** Promises 12 to 16, sentence by sentence: the disk. */
public final class DiskTest {
    private static final int MIN = Integer.MIN_VALUE, MAX = Integer.MAX_VALUE;
    private static final int HEAD_0 = 3500, HEAD_1 = 3516;
    private static final int[] NO_SUCH_PLACE = {-1, 3532, 3533, MIN, MAX};
    private static final Due due = new Due();

    public static void main(String[] args) {
        save();
        saveIsRefused();
        theGreatestLog();
        open();
        disk();
        noSuchPlaceToLook();
        poke();
        noSuchPlaceToPoke();
        toldOfTheLog();
        toldOfTheOlderHead();
        toldInTheDark();
        toldOfTheHead();
        toldOfWrongRows();
        toldOfWrongCounts();
        toldOfTheLatestOpening();
        toldIsBad();
        due.end();
    }

    private static void save() {
        due.says(12, "SAVING with POWER for so many bytes (0 and more): how many were written.");
        for (int power : new int[] {0, 1, 15, 16, 17, 4000, MAX}) {
            FactLog x = new FactLog();
            due.is("no facts, power " + power, x.save(power), Math.min(power, 16));
            due.is("dark", x.told(5), power < 16 ? 1 : 0);
        }
        for (int power : new int[] {0, 18, 19, 34, 35, 36, MAX}) {
            FactLog x = new FactLog();
            x.fact(0, 0);
            due.is("a fact, power " + power, x.save(power), Math.min(power, 35));
            due.is("dark", x.told(5), power < 35 ? 1 : 0);
        }
        FactLog x = new FactLog();
        x.fact(0, 0);
        x.save(35);
        due.is("once more, only a head", x.save(MAX), 16);
        due.is("power is for one saving", x.save(15), 15);
        due.is("dark", x.told(5), 1);
    }

    private static void saveIsRefused() {
        due.says(12, "BAD;");
        FactLog x = new FactLog();
        x.fact(0, 9);
        for (int power : new int[] {-1, -16, MIN}) due.is("save(" + power + ")", x.save(power), FactLog.BAD);
        due.is("not dark", x.told(5), 0);
        due.is("generation", x.told(1), 0);
        due.is("no row", x.of(0, 6), 0);
        for (int place : new int[] {8, 11, HEAD_1 + 3, HEAD_1 + 15}) due.is("nothing written", x.disk(place), 0);
        due.is("the least that may be", x.save(0), 0);
        due.is("DARK goes first", x.save(-1), FactLog.DARK);
    }

    /** 60 facts with all that they can have take 3474 bytes: the log is never full, so no call answers FULL. */
    private static void theGreatestLog() {
        due.says(12, "FULL: the ROWS have no room in the LOG.");
        FactLog x = new FactLog();
        for (int i = 0; i < 60; i++) {
            for (int k = 0; k < 4; k++) x.rest(k + i % 12);
            for (int k = 1; k <= 3; k++) if (i >= k) x.lean(i - k);
            x.fact(i % 4, i);
        }
        due.is("save", x.save(10000), 3474 + 16);
        due.is("not dark", x.told(5), 0);
        due.is("bytes", x.told(3), 3474);
        due.is("behind the last row", x.disk(3474), 0);
        due.is("open", x.open(), 60);
        due.is("things of the last one", x.of(59, 13), 14);
        due.is("facts of the last one", x.of(59, 42), 56);
        due.is("rows", x.told(2), 60);
        due.is("no wrong row", x.told(7), FactLog.NONE);
    }

    private static void open() {
        due.says(13, "OPENING (nothing is told by rest(), lean() then; OUT, SHELF stay): how many FACTS.");
        FactLog x = new FactLog();
        due.is("nothing saved", x.open(), 0);
        x.rest(1);
        x.fact(0, 0);
        x.fact(0, 0);
        x.save(100);
        for (int thing = 4; thing < 8; thing++) x.rest(thing);
        x.lean(0);
        x.shelf(0, 3);
        x.swap();
        x.set(2, 77);
        x.swap();
        x.pack(0, true);
        due.is("two facts", x.open(), 2);
        due.is("no thing is told", x.rest(5), 1);
        due.is("no fact is told", x.lean(1), 1);
        x.fact(0, 0);
        due.is("things", x.of(2, 4), 1);
        due.is("facts", x.of(2, 5), 1);
        due.is("OUT stays", x.item(-1), 22);
        due.is("OUT stays", x.item(0), 1);
        due.is("SHELF stays", x.swap(), 1);
        due.is("SHELF stays", x.item(-1), 3);
        due.is("SHELF stays", x.item(2), 77);
        x.rest(1);
        due.is("opened again", x.open(), 2);
        due.is("no thing is told", x.rest(9), 1);
        x.save(3);
        due.is("from the dark", x.open(), 2);
        due.is("no thing is told", x.rest(8), 1);
        due.is("OUT stays", x.item(2), 77);
        due.is("SHELF stays", x.swap(), 2);
        due.is("SHELF stays", x.item(-1), 22);
    }

    private static void disk() {
        due.says(14, "Byte of the DISK, 0 .. 255.");
        FactLog x = new FactLog();
        x.fact(0, 0xFF7F8001L);
        x.save(100);
        int[] value = {0, 0, 0, 0, 255, 127, 128, 1};
        for (int i = 0; i < 8; i++) due.is("disk(" + (1 + i) + ")", x.disk(1 + i), value[i]);
        due.is("the last place", x.disk(3531), Sums.head(1, 1, Rows.sumOf(Rows.plain(0xFF7F8001L)))[15]);
        due.is("the first place", x.disk(0), 0);
        x.poke(0, 255);
        due.is("the first place", x.disk(0), 255);
    }

    private static void noSuchPlaceToLook() {
        due.says(14, "ArrayIndexOutOfBoundsException: no such place.");
        FactLog x = new FactLog();
        for (int place : NO_SUCH_PLACE) due.throwsIndex("disk(" + place + ")", () -> x.disk(place));
        due.is("there is a last place", x.disk(3531), 0);
        x.save(0);
        for (int place : NO_SUCH_PLACE) due.throwsIndex("disk(" + place + ") in the dark", () -> x.disk(place));
        due.is("in the dark", x.disk(0), 0);
    }

    private static void poke() {
        due.says(15, "That byte becomes itself xor the mask's lowest 8 bits: what it is then.");
        FactLog x = new FactLog();
        due.is("poke", x.poke(3531, 255), 255);
        due.is("xor", x.poke(3531, 15), 240);
        due.is("lowest 8 bits", x.poke(3531, 0x7FFFFF01), 241);
        due.is("lowest 8 bits", x.poke(3531, 256), 241);
        due.is("mask below 0", x.poke(3531, -1), 14);
        due.is("mask below 0", x.poke(3531, MIN), 14);
        due.is("disk", x.disk(3531), 14);
        due.is("the one before stays", x.disk(3530), 0);
        due.is("the first place", x.poke(0, -128), 128);
        due.is("the one behind stays", x.disk(1), 0);
        due.is("no bit", x.poke(0, 0), 128);
        x.save(0);
        due.is("in the dark", x.poke(0, 1), 129);
        due.is("in the dark", x.disk(0), 129);
    }

    private static void noSuchPlaceToPoke() {
        due.says(15, "ArrayIndexOutOfBoundsException likewise.");
        FactLog x = new FactLog();
        for (int place : NO_SUCH_PLACE) due.throwsIndex("poke(" + place + ")", () -> x.poke(place, 1));
        for (int place : NO_SUCH_PLACE) due.throwsIndex("poke(" + place + ", 0)", () -> x.poke(place, 0));
        due.is("nothing is poked", x.disk(0) + x.disk(3531), 0);
        x.save(0);
        for (int place : NO_SUCH_PLACE) due.throwsIndex("poke(" + place + ") in the dark", () -> x.poke(place, 1));
    }

    private static void told(String when, FactLog x, int... want) {
        for (int what = 0; what < want.length; what++) due.is(when + ", told(" + what + ")", x.told(what), want[what]);
    }

    private static void toldOfTheLog() {
        due.says(16, "0 FACTS, 1 GENERATION, 2 ROWS (of the HEAD that was opened or saved last; else 0), 3 bytes of the LOG that "
            + "they take");
        FactLog x = new FactLog();
        told("at first", x, 0, 0, 0, 0);
        x.fact(0, 0);
        told("not saved", x, 1, 0, 0, 0);
        x.save(100);
        told("saved", x, 1, 1, 1, 19);
        x.rest(1);
        x.lean(0);
        x.fact(0, 0);
        told("one not saved", x, 2, 1, 1, 19);
        x.save(100);
        told("saved", x, 2, 2, 2, 48);
        x.save(100);
        told("saved again", x, 2, 3, 2, 48);
        x.fact(0, 0);
        x.open();
        told("opened", x, 2, 3, 2, 48);
        x.poke(0, 1);
        told("poked", x, 2, 3, 2, 48);
        x.open();
        told("no whole head", x, 0, 0, 0, 0);
    }

    private static void toldOfTheOlderHead() {
        FactLog x = new FactLog();
        x.fact(0, 0);
        x.save(100);
        x.fact(0, 0);
        x.save(100);
        x.poke(HEAD_0 + 9, 1);
        x.open();
        told("the older head", x, 1, 1, 1, 19);
        x.poke(HEAD_0 + 9, 1);
        x.open();
        told("the later head", x, 2, 2, 2, 38);
    }

    private static void toldInTheDark() {
        due.says(16, "(DARK: 1 to 3 as ahead of the SAVING that was cut),");
        for (int power : new int[] {0, 1, 18, 19, 20, 34}) {
            FactLog x = new FactLog();
            x.fact(0, 0);
            x.save(power);
            told("the first saving cut at " + power, x, 1, 0, 0, 0, FactLog.NONE, 1);
        }
        for (int power : new int[] {0, 1, 19, 38, 39, 53}) {
            FactLog x = new FactLog();
            x.fact(0, 0);
            x.save(100);
            x.save(100);
            x.fact(0, 0);
            x.fact(0, 0);
            x.save(power);
            told("a later one cut at " + power, x, 3, 2, 1, 19, FactLog.NONE, 1);
        }
    }

    private static void toldOfTheHead() {
        due.says(16, "4 the HEAD of the latest OPENING (NONE: no WHOLE one, or no OPENING), 5 whether it is DARK (1, 0),");
        FactLog x = new FactLog();
        told("no opening", x, 0, 0, 0, 0, FactLog.NONE, 0);
        x.save(16);
        told("no opening, but saved", x, 0, 1, 0, 0, FactLog.NONE, 0);
        x.open();
        told("opened", x, 0, 1, 0, 0, 1, 0);
        x.save(16);
        told("saving is no opening", x, 0, 2, 0, 0, 1, 0);
        x.open();
        told("opened", x, 0, 2, 0, 0, 0, 0);
        x.save(15);
        told("dark", x, 0, 2, 0, 0, 0, 1);
        x.open();
        told("opened", x, 0, 2, 0, 0, 0, 0);
        x.poke(HEAD_0, 1);
        told("poked", x, 0, 2, 0, 0, 0, 0);
        x.open();
        told("no whole one", x, 0, 0, 0, 0, FactLog.NONE, 0);
        FactLog y = new FactLog();
        y.open();
        told("nothing saved", y, 0, 0, 0, 0, FactLog.NONE, 0);
    }

    /** A disk with head 0 of four rows and head 1 of three. */
    private static FactLog threeAndFour() {
        FactLog x = new FactLog();
        for (int i = 0; i < 3; i++) x.fact(0, i);
        x.save(100);
        x.fact(0, 3);
        x.save(100);
        return x;
    }

    private static void toldOfWrongRows() {
        due.says(16, "6 at the latest OPENING the first ROW of HEAD 0 that is not so (NONE: all are;");
        FactLog x = threeAndFour();
        x.open();
        due.is("all are, told(6)", x.told(6), FactLog.NONE);
        due.is("all are, told(7)", x.told(7), FactLog.NONE);
        for (int row = 0; row < 4; row++) {
            for (int in : new int[] {0, 1, 8, 9, 10, 11, 18}) {
                FactLog y = threeAndFour();
                y.poke(row * 19 + in, 128);
                y.poke(3 * 19 + in, 128);
                if (row == 3) y.poke(3 * 19 + in, 128);
                y.open();
                due.is("the first one, told(6)", y.told(6), row);
                due.is("the first one, told(7)", y.told(7), row < 3 ? row : FactLog.NONE);
            }
        }
        FactLog z = threeAndFour();
        z.poke(HEAD_0, 1);
        z.poke(HEAD_1 + 15, 1);
        z.open();
        due.is("rows are so, if the head is not whole, told(6)", z.told(6), FactLog.NONE);
        due.is("rows are so, if the head is not whole, told(7)", z.told(7), FactLog.NONE);
        due.is("none is", z.told(4), FactLog.NONE);
    }

    private static void toldOfWrongCounts() {
        due.says(16, "the HEAD's ROWS are below 0, above 60: 60), 7 of HEAD 1.");
        int[][] counts = {{-1, 60}, {61, 60}, {62, 60}, {MIN, 60}, {MAX, 60}, {60, 4}, {5, 4}, {4, FactLog.NONE}, {3, FactLog.NONE},
            {0, FactLog.NONE}};
        for (int[] count : counts) {
            FactLog x = threeAndFour();
            Sums.lay(x, HEAD_0, Sums.head(5, count[0], 1));
            x.open();
            due.is("head 0 of " + count[0], x.told(6), count[1]);
            due.is("head 1 is so", x.told(7), FactLog.NONE);
            FactLog y = threeAndFour();
            Sums.lay(y, HEAD_1, Sums.head(5, count[0], 1));
            y.open();
            due.is("head 1 of " + count[0], y.told(7), count[1]);
            due.is("head 0 is so", y.told(6), FactLog.NONE);
        }
        FactLog x = new FactLog();
        Sums.lay(x, HEAD_0, Sums.head(1, 60, 1));
        x.open();
        due.is("60 rows of which there is none", x.told(6), 0);
        for (int i = 0; i < 60; i++) x.fact(0, i);
        x.save(5000);
        x.open();
        due.is("60 rows", x.told(7), FactLog.NONE);
        x.poke(59 * 19, 1);
        x.open();
        due.is("the last of 60 rows", x.told(7), 59);
    }

    private static void toldOfTheLatestOpening() {
        FactLog x = new FactLog();
        due.is("no opening, told(6)", x.told(6), FactLog.NONE);
        due.is("no opening, told(7)", x.told(7), FactLog.NONE);
        x.fact(0, 0);
        x.save(100);
        x.poke(0, 1);
        due.is("no opening yet", x.told(7), FactLog.NONE);
        x.open();
        due.is("opened, told(6)", x.told(6), FactLog.NONE);
        due.is("opened, told(7)", x.told(7), 0);
        x.poke(0, 1);
        due.is("mended, but not opened", x.told(7), 0);
        x.save(100);
        due.is("saved, but not opened", x.told(7), 0);
        x.save(0);
        due.is("dark", x.told(7), 0);
        x.open();
        due.is("opened anew", x.told(7), FactLog.NONE);
    }

    private static void toldIsBad() {
        due.says(16, "BAD.");
        FactLog x = new FactLog();
        for (int what : new int[] {-1, 8, 9, MIN, MAX}) due.is("told(" + what + ")", x.told(what), FactLog.BAD);
        x.save(0);
        for (int what : new int[] {-1, 8, 9, MIN, MAX}) due.is("in the dark", x.told(what), FactLog.BAD);
    }
}
