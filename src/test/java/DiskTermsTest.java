import java.util.Arrays;

/** The terms' second section, sentence by sentence: the disk, its rows and heads, saving and opening. */
public final class DiskTermsTest {
    private static final int MIN = Integer.MIN_VALUE, MAX = Integer.MAX_VALUE;
    private static final int HEAD_0 = 3500, HEAD_1 = 3516, END = 3532;
    private static final Due due = new Due();

    public static void main(String[] args) {
        layout();
        bytesOfRows();
        highestByteFirst();
        sumsRunOver();
        sumsHangTogether();
        sumOfAHead();
        headsOfNoRowsToSixty();
        headsOfTooManyRows();
        rowsJustSo();
        rowsNotSo();
        numbersOfFactsInRows();
        pokedRows();
        aHeadOfFewerRows();
        sumOfAHeadIsRight();
        allBytesZero();
        savingBehindTheOthers();
        savingBehindAnOlderHead();
        savingToTheOtherHead();
        generationsRunOver();
        powerEndsAtAnyByte();
        powerEndsOverOldBytes();
        generationAtFirst();
        openingTheGreater();
        openingOfLikeOnes();
        openedFacts();
        openingWithoutAHead();
        thingsStay();
        lightAgain();
        due.end();
    }

    private static void bytes(FactLog x, int place, int... want) {
        for (int i = 0; i < want.length; i++) due.is("disk(" + (place + i) + ")", x.disk(place + i), want[i]);
    }

    /** A disk with these parts on it, all else 0. */
    private static int[] diskWith(int[] log, int[] head0, int[] head1) {
        int[] all = new int[END];
        System.arraycopy(log, 0, all, 0, log.length);
        System.arraycopy(head0, 0, all, HEAD_0, head0.length);
        System.arraycopy(head1, 0, all, HEAD_1, head1.length);
        return all;
    }

    private static void wholeDisk(String when, State.Scene scene, int[] want) {
        int[] got = State.diskOf(scene);
        for (int place = 0; place < END; place++) due.is(when + ": disk(" + place + ")", got[place], want[place]);
    }

    private static void layout() {
        due.says(0, "======== 2 THE DISK: 3500 bytes of LOG, then HEAD 0 and HEAD 1, 16 bytes each; all 0 at first.");
        wholeDisk("at first", FactLog::new, new int[END]);
        wholeDisk("a head of generation 1", () -> {
            FactLog x = new FactLog();
            x.save(16);
            return x;
        }, diskWith(new int[0], new int[0], Sums.head(1, 0, 1)));
        wholeDisk("and one of generation 2", () -> {
            FactLog x = new FactLog();
            x.save(16);
            x.save(16);
            return x;
        }, diskWith(new int[0], Sums.head(2, 0, 1), Sums.head(1, 0, 1)));
        FactLog x = new FactLog();
        due.throwsIndex("one place behind", () -> x.disk(END));
    }

    /** Bytes that were reckoned by another program. */
    private static void bytesOfRows() {
        due.says(0, "ROWS, one behind the other from byte 0 on, of FACTS in order: KIND (1 byte);");
        FactLog x = new FactLog();
        x.change(5, -7);
        x.rest(5);
        x.rest(0);
        x.fact(2, -2);
        x.lean(0);
        x.fact(1, 0x0102030405060708L);
        x.save(73);
        bytes(x, 0, 2, 255, 255, 255, 255, 255, 255, 255, 254, 2, 5, 255, 255, 255, 249, 0, 0, 0, 1,
            0, 0, 0, 0, 0, 0, 0, 0, 0, 0, 122, 28, 183, 57, 144, 117, 162, 196);
        bytes(x, 37, 1, 1, 2, 3, 4, 5, 6, 7, 8, 0, 1, 0, 196, 114, 94, 128, 8, 251, 27, 38, 0);
        bytes(x, HEAD_1, 0, 0, 0, 1, 0, 0, 0, 2, 139, 153, 125, 75, 179, 119, 237, 172);
    }

    private static void highestByteFirst() {
        due.says(0, "VALUE (8; of all numbers the highest byte first); how many THINGS (1), of each its number (1), DIGEST "
            + "(4), CHANGES (4); how many FACTS (1), of each its number (1); SUM (8).");
        State.Scene scene = () -> {
            FactLog x = new FactLog();
            for (int i = 0; i < 3; i++) x.fact(i + 1, 0x8182838485868788L + i);
            for (int i = 0; i < 258; i++) x.change(15, 0xF1E2D3C4);
            x.change(0, 0x01020304);
            for (int thing : new int[] {15, 0, 7, 8}) x.rest(thing);
            for (int fact : new int[] {2, 0, 1}) x.lean(fact);
            x.fact(0, -1);
            x.save(1000);
            return x;
        };
        int[][] things = {{15, 0xF1E2D3C4, 258}, {0, 0x01020304, 1}, {7, 0, 0}, {8, 0, 0}};
        int[][] rows = {Rows.row(1, 0x8182838485868788L, Rows.NO_THINGS), Rows.row(2, 0x8182838485868789L, Rows.NO_THINGS),
            Rows.row(3, 0x818283848586878AL, Rows.NO_THINGS), Rows.row(0, -1, things, 2, 0, 1)};
        wholeDisk("all that a row can have", scene,
            diskWith(Rows.log(rows), new int[0], Sums.head(1, 4, Rows.sumOf(rows))));
        due.is("bytes of the log", scene.made().told(3), 3 * 19 + 58);
    }

    private static void sumsRunOver() {
        due.says(0, "SUM of bytes, from a beginning s on: with each byte b (0 .. 255) s becomes (s xor b), turned 7 bits to "
            + "the left, times 9E3779B97F4A7C15 (hexadecimal; running over).");
        due.is("by hand: (1 xor 1) is 0", Sums.of(1, 1), 0);
        due.is("by hand: (1 xor 0) turned is 128", Sums.of(1, 0), 128 * 0x9E3779B97F4A7C15L);
        for (long value : new long[] {0, -1, Long.MIN_VALUE, Long.MAX_VALUE, 0x80FF7F0180FF7F01L}) {
            FactLog x = new FactLog();
            x.fact(3, value);
            x.save(35);
            bytes(x, 11, Sums.bytes(Sums.of(1, Rows.row(3, value, Rows.NO_THINGS)), 8));
        }
    }

    private static void sumsHangTogether() {
        due.says(0, "A ROW's SUM is that of its bytes ahead, from the SUM of the ROW before on (the first one from 1 on).");
        FactLog x = new FactLog();
        for (int i = 0; i < 3; i++) x.fact(0, 5);
        x.save(1000);
        int[] row = Rows.plain(5);
        long sum = 1;
        for (int i = 0; i < 3; i++) {
            sum = Sums.of(sum, row);
            bytes(x, 19 * i + 11, Sums.bytes(sum, 8));
        }
        x.fact(0, 5);
        x.save(1000);
        sum = Sums.of(sum, row);
        bytes(x, 68, Sums.bytes(sum, 8));
        x.open();
        x.fact(0, 5);
        x.save(1000);
        bytes(x, 87, Sums.bytes(Sums.of(sum, row), 8));
        sumsInSpiteOfPokes();
    }

    /** What comes later hangs on the rows as they were saved, not on what was poked meanwhile. */
    private static void sumsInSpiteOfPokes() {
        FactLog x = new FactLog();
        x.fact(0, 1);
        x.save(100);
        x.poke(18, 5);
        x.fact(0, 2);
        x.save(100);
        due.is("row 0 is not so", x.open(), 0);
        x.poke(18, 5);
        due.is("all is well again", x.open(), 2);
    }

    private static void sumOfAHead() {
        due.says(0, "A HEAD: GENERATION (4), ROWS (4), SUM (8): of these 8 bytes from the SUM of the last of so many ROWS on "
            + "(none: 1).");
        FactLog x = new FactLog();
        x.save(16);
        bytes(x, HEAD_1, 0, 0, 0, 1, 0, 0, 0, 0, 78, 129, 104, 94, 230, 182, 70, 105);
        x.fact(0, 4);
        x.fact(0, 5);
        x.save(1000);
        bytes(x, HEAD_0, Sums.head(2, 2, Rows.sumOf(Rows.plain(4), Rows.plain(5))));
        FactLog y = new FactLog();
        Sums.lay(y, HEAD_0, Sums.head(0x7F010203, 0, 1));
        due.is("one that was laid by hand", y.open(), 0);
        due.is("its generation", y.told(1), 0x7F010203);
        due.is("save", y.save(16), 16);
        due.is("the next generation", y.told(1), 0x7F010204);
        bytes(y, HEAD_0, Sums.head(0x7F010204, 0, 1));
    }

    /** Sixty rows, 0 to 59, of values 0 to 59. */
    private static FactLog sixty() {
        FactLog x = new FactLog();
        for (int i = 0; i < 60; i++) x.fact(0, i);
        x.save(5000);
        return x;
    }

    private static int[][] sixtyOneRows() {
        int[][] rows = new int[61][];
        for (int i = 0; i < 61; i++) rows[i] = Rows.plain(i);
        return rows;
    }

    private static void headsOfNoRowsToSixty() {
        due.says(0, "A HEAD is WHOLE, if it has 0 to 60 ROWS,");
        FactLog x = sixty();
        due.is("60", x.open(), 60);
        due.is("head", x.told(4), 1);
        due.is("the last one's value", x.value(59), 59);
        int[][] rows = sixtyOneRows();
        for (int count : new int[] {0, 1, 59, 60}) {
            FactLog y = sixty();
            Sums.lay(y, HEAD_0, Sums.head(9, count, Rows.sumOf(Arrays.copyOf(rows, count))));
            due.is("a head of " + count, y.open(), count);
            due.is("head", y.told(4), 0);
        }
    }

    private static void headsOfTooManyRows() {
        int[][] rows = sixtyOneRows();
        int[] log = Rows.log(rows);
        FactLog x = sixty();
        Sums.lay(x, 60 * 19, Arrays.copyOfRange(log, 60 * 19, 61 * 19));
        Sums.lay(x, HEAD_0, Sums.head(9, 61, Rows.sumOf(rows)));
        due.is("61 rows, all of them right", x.open(), 60);
        due.is("the other head", x.told(4), 1);
        due.is("its generation", x.told(1), 1);
        for (int count : new int[] {-1, 61, 255, 256, 1 << 24, MIN, MAX}) {
            FactLog y = new FactLog();
            Sums.lay(y, HEAD_1, Sums.head(1, count, 1));
            due.is("open", y.open(), 0);
            due.is("a head of " + count, y.told(4), FactLog.NONE);
            due.is("generation", y.told(1), 0);
        }
    }

    /** Lays these rows, with right sums, a head 0 of all but the last and a head 1 of all of them: whether that is whole. */
    private static boolean isWholeWith(int[]... rows) {
        FactLog x = new FactLog();
        int[][] fewer = Arrays.copyOf(rows, rows.length - 1);
        Sums.lay(x, 0, Rows.log(rows));
        Sums.lay(x, HEAD_0, Sums.head(1, fewer.length, Rows.sumOf(fewer)));
        Sums.lay(x, HEAD_1, Sums.head(2, rows.length, Rows.sumOf(rows)));
        int facts = x.open();
        boolean whole = x.told(4) == 1;
        due.is("facts", facts, whole ? rows.length : fewer.length);
        due.is("head 0 is whole", x.told(6), FactLog.NONE);
        due.is("first wrong row of head 1", x.told(7), whole ? FactLog.NONE : fewer.length);
        due.is("bytes", x.told(3), Rows.log(whole ? rows : fewer).length);
        return whole;
    }

    private static void right(String what, int[]... rows) {
        due.is(what, isWholeWith(rows) ? 1 : 0, 1);
    }

    private static void wrong(String what, int[]... rows) {
        due.is(what, isWholeWith(rows) ? 1 : 0, 0);
    }

    private static int[] of(int kind, int... things) {
        return Rows.row(kind, 9, Rows.things(things));
    }

    private static void rowsJustSo() {
        due.says(0, "they stand in the LOG just so (KINDS, counts, numbers as told, none twice, each FACT's number less than "
            + "the ROW's own; SUMS right),");
        for (int kind = 0; kind < 4; kind++) right("kind " + kind, of(kind));
        right("four things, the least and the greatest", of(3, 15, 0, 1, 14));
        right("things in any order", of(0, 9, 8));
        right("any value", Rows.plain(-1));
        right("any digest and changes", Rows.row(2, 0, new int[][] {{1, -1, -1}, {2, MIN, MAX}}));
        right("on the one before", of(0), Rows.plain(9, 0));
        right("three facts in any order", of(0), of(0), of(0), Rows.plain(9, 2, 0, 1));
    }

    private static void rowsNotSo() {
        for (int kind : new int[] {4, 5, 128, 255}) wrong("kind " + kind, of(kind));
        wrong("five things", of(0, 0, 1, 2, 3, 4));
        for (int thing : new int[] {16, 17, 128, 255}) wrong("no such thing", of(0, thing));
        wrong("the fourth is no such thing", of(0, 1, 2, 3, 16));
        wrong("a thing twice", of(0, 3, 3));
        wrong("a thing twice, first and last", of(0, 3, 4, 5, 3));
        wrong("255 things", new int[] {0, 0, 0, 0, 0, 0, 0, 0, 0, 255, 0});
        wrong("255 facts", new int[] {0, 0, 0, 0, 0, 0, 0, 0, 0, 0, 255});
        wrong("no row at all, but a sum", new int[] {});
        wrong("a count of facts is wanting", new int[] {0, 0, 0, 0, 0, 0, 0, 0, 0, 0});
        wrong("a byte too many", new int[] {0, 0, 0, 0, 0, 0, 0, 0, 0, 0, 0, 0});
    }

    private static void numbersOfFactsInRows() {
        wrong("the first row on a fact", Rows.plain(9, 0));
        wrong("on itself", of(0), Rows.plain(9, 1));
        wrong("on a later one", of(0), Rows.plain(9, 2));
        wrong("on one far behind", of(0), Rows.plain(9, 255));
        wrong("twice on one", of(0), Rows.plain(9, 0, 0));
        wrong("twice on one of three", of(0), of(0), of(0), Rows.plain(9, 2, 1, 2));
        wrong("the third is its own", of(0), of(0), Rows.plain(9, 1, 0, 2));
        wrong("four facts", of(0), of(0), of(0), of(0), Rows.plain(9, 0, 1, 2, 3));
        wrong("as if each row began anew", of(0), of(0, 1), Rows.plain(9, 0, 4));
    }

    /** Every bit of two rows, each by itself. */
    private static void pokedRows() {
        for (int place = 0; place < 38; place++) {
            for (int mask = 1; mask < 256; mask <<= 1) {
                FactLog x = new FactLog();
                x.fact(0, 1);
                x.save(100);
                x.fact(0, 1);
                x.save(100);
                x.poke(place, mask);
                due.is("open with " + place + " poked", x.open(), place < 19 ? 0 : 1);
                due.is("head", x.told(4), place < 19 ? FactLog.NONE : 1);
            }
        }
    }

    /** Rows behind those that a head counts do not matter to it. */
    private static void aHeadOfFewerRows() {
        FactLog x = new FactLog();
        for (int place = 0; place < 60; place++) x.poke(place, 255);
        Sums.lay(x, HEAD_1, Sums.head(1, 0, 1));
        due.is("a head of no rows over what is none", x.open(), 0);
        due.is("it is whole", x.told(4), 1);
        due.is("generation", x.told(1), 1);
        x.fact(0, 3);
        due.is("saving goes over that", x.save(100), 35);
        due.is("open", x.open(), 1);
        due.is("value", x.value(0), 3);
    }

    private static void sumOfAHeadIsRight() {
        due.says(0, "and its SUM is right.");
        for (int place = HEAD_1; place < END; place++) {
            for (int mask = 1; mask < 256; mask <<= 1) {
                FactLog x = new FactLog();
                x.fact(0, 1);
                x.save(100);
                x.poke(place, mask);
                due.is("open with " + place + " poked", x.open(), 0);
                due.is("head", x.told(4), FactLog.NONE);
                x.poke(place, mask);
                due.is("mended", x.open(), 1);
            }
        }
        FactLog x = new FactLog();
        x.fact(0, 1);
        x.save(100);
        Sums.lay(x, HEAD_1, Sums.head(1, 1, 1));
        due.is("a sum as if there were no rows", x.open(), 0);
        Sums.lay(x, HEAD_1, Sums.head(1, 0, Rows.sumOf(Rows.plain(1))));
        due.is("a sum as if there were a row", x.open(), 0);
        due.is("none is whole", x.told(4), FactLog.NONE);
    }

    private static void allBytesZero() {
        due.says(0, "(All bytes 0: SUM is not right, so it is none.)");
        FactLog x = new FactLog();
        due.is("open", x.open(), 0);
        due.is("head", x.told(4), FactLog.NONE);
        Sums.lay(x, HEAD_1, Sums.head(MIN, 0, 1));
        x.open();
        due.is("the least generation is greater than none", x.told(4), 1);
        Sums.lay(x, HEAD_1, new int[16]);
        Sums.lay(x, HEAD_0, Sums.head(0, 0, 1));
        x.open();
        due.is("but for the sum all 0", x.told(4), 0);
    }

    private static void savingBehindTheOthers() {
        due.says(0, "SAVING: ROWS of FACTS that have none yet come behind the others;");
        State.Scene scene = () -> {
            FactLog x = new FactLog();
            x.fact(0, 1);
            due.is("one row", x.save(1000), 35);
            due.is("none", x.save(1000), 16);
            x.fact(0, 2);
            x.fact(0, 3);
            due.is("two rows", x.save(1000), 54);
            x.open();
            x.fact(0, 4);
            due.is("one row behind an opening", x.save(1000), 35);
            return x;
        };
        int[][] rows = {Rows.plain(1), Rows.plain(2), Rows.plain(3), Rows.plain(4)};
        wholeDisk("four rows", scene, diskWith(Rows.log(rows), Sums.head(4, 4, Rows.sumOf(rows)),
            Sums.head(3, 3, Rows.sumOf(rows[0], rows[1], rows[2]))));
        FactLog x = scene.made();
        x.drop(0);
        due.is("a row is not written anew", x.save(1000), 16);
        x.pack(1, true);
        x.take();
        due.is("one that was taken in", x.save(1000), 35);
        due.is("open", x.open(), 5);
    }

    /** Rows behind an older head go over those of a later one, and their sums hang on that head's rows. */
    private static void savingBehindAnOlderHead() {
        State.Scene scene = () -> {
            FactLog x = new FactLog();
            x.fact(0, 1);
            x.save(100);
            x.fact(0, 2);
            x.fact(0, 3);
            x.save(100);
            x.poke(HEAD_0, 1);
            due.is("the older head", x.open(), 1);
            x.fact(0, 4);
            due.is("save", x.save(100), 35);
            return x;
        };
        int[] left = Rows.log(Rows.plain(1), Rows.plain(2), Rows.plain(3));
        int[] over = Rows.log(Rows.plain(1), Rows.plain(4));
        System.arraycopy(over, 0, left, 0, over.length);
        wholeDisk("what is behind stays", scene, diskWith(left,
            Sums.head(2, 2, Rows.sumOf(Rows.plain(1), Rows.plain(4))), Sums.head(1, 1, Rows.sumOf(Rows.plain(1)))));
        FactLog x = scene.made();
        due.is("open", x.open(), 2);
        due.is("value", x.value(1), 4);
        x.poke(HEAD_0, 1);
        x.poke(HEAD_1, 1);
        due.is("no head", x.open(), 0);
        x.fact(0, 5);
        due.is("save from byte 0 on", x.save(100), 35);
        bytes(x, 0, Rows.log(Rows.plain(5)));
        due.is("open", x.open(), 1);
        due.is("value", x.value(0), 5);
    }

    private static void savingToTheOtherHead() {
        due.says(0, "then HEAD (GENERATION + 1) modulo 2, with GENERATION + 1.");
        FactLog x = new FactLog();
        for (int generation = 1; generation < 6; generation++) {
            due.is("save", x.save(16), 16);
            due.is("generation", x.told(1), generation);
            bytes(x, generation % 2 == 0 ? HEAD_0 : HEAD_1, Sums.head(generation, 0, 1));
            if (generation > 1) bytes(x, generation % 2 == 0 ? HEAD_1 : HEAD_0, Sums.head(generation - 1, 0, 1));
        }
        FactLog y = new FactLog();
        Sums.lay(y, HEAD_0, Sums.head(7, 0, 1));
        y.open();
        due.is("an odd one in head 0", y.told(1), 7);
        y.save(16);
        bytes(y, HEAD_0, Sums.head(8, 0, 1));
        bytes(y, HEAD_1, new int[16]);
    }

    private static void generationsRunOver() {
        int[][] steps = {{-3, -2, HEAD_0}, {-2, -1, HEAD_1}, {-1, 0, HEAD_0}, {MAX, MIN, HEAD_0}, {MIN, MIN + 1, HEAD_1},
            {MAX - 1, MAX, HEAD_1}};
        for (int[] step : steps) {
            FactLog x = new FactLog();
            Sums.lay(x, step[2] == HEAD_0 ? HEAD_1 : HEAD_0, Sums.head(step[0], 0, 1));
            x.open();
            due.is("generation", x.told(1), step[0]);
            due.is("save", x.save(16), 16);
            due.is("generation then", x.told(1), step[1]);
            bytes(x, step[2], Sums.head(step[1], 0, 1));
            bytes(x, step[2] == HEAD_0 ? HEAD_1 : HEAD_0, Sums.head(step[0], 0, 1));
        }
        FactLog x = new FactLog();
        Sums.lay(x, HEAD_1, Sums.head(MAX, 0, 1));
        x.open();
        x.fact(0, 1);
        x.save(100);
        due.is("the older one is greater as ints", x.open(), 0);
        due.is("generation", x.told(1), MAX);
    }

    /** Asks of every power up to all that is wanted what is written, from the first byte of these on. */
    private static void everyPower(State.Scene scene, int facts, int factsBefore, int[] log, int place, int[] head) {
        int[] before = State.diskOf(scene);
        int all = log.length + head.length;
        int used = scene.made().told(3), headPlace = place;
        for (int power = 0; power <= all + 1; power++) {
            int given = power, written = Math.min(power, all);
            State.Scene cut = () -> {
                FactLog x = scene.made();
                due.is("save(" + given + ")", x.save(given), written);
                return x;
            };
            int[] want = before.clone();
            for (int i = 0; i < written; i++) {
                if (i < log.length) want[used + i] = log[i];
                else want[headPlace + i - log.length] = head[i - log.length];
            }
            wholeDisk("power " + power, cut, want);
            due.is("dark with power " + power, cut.made().told(5), power < all ? 1 : 0);
            due.is("open with power " + power, cut.made().open(), power < all ? factsBefore : facts);
            FactLog x = State.opened(cut);
            x.fact(2, 4);
            due.is("save once more", x.save(100), 35);
            due.is("not dark", x.told(5), 0);
            due.is("open once more", x.open(), 1 + (power < all ? factsBefore : facts));
            due.is("value", x.value(x.told(0) - 1), 4);
        }
    }

    private static void powerEndsAtAnyByte() {
        due.says(0, "Bytes are written one by one, in this order, as long as there is POWER (so many bytes); when one is to be "
            + "written and there is none left, no more is written and the house is DARK.");
        everyPower(() -> {
            FactLog x = new FactLog();
            x.fact(0, -1);
            x.fact(3, -2);
            return x;
        }, 2, 0, Rows.log(Rows.plain(-1), Rows.row(3, -2, Rows.NO_THINGS)), HEAD_1,
            Sums.head(1, 2, Rows.sumOf(Rows.plain(-1), Rows.row(3, -2, Rows.NO_THINGS))));
        everyPower(FactLog::new, 0, 0, new int[0], HEAD_1, Sums.head(1, 0, 1));
    }

    /** The rows go over what an earlier saving that was cut left there, the head over an older one that was whole. */
    private static void powerEndsOverOldBytes() {
        State.Scene scene = () -> {
            FactLog x = new FactLog();
            x.fact(0, -1);
            x.save(100);
            x.fact(0, -2);
            x.save(100);
            x.fact(3, 99);
            x.fact(3, 98);
            x.save(50);
            x.open();
            x.lean(0);
            x.fact(1, -3);
            return x;
        };
        int[][] rows = {Rows.plain(-1), Rows.plain(-2), Rows.row(1, -3, Rows.NO_THINGS, 0)};
        int[] log = Rows.log(rows);
        everyPower(scene, 3, 2, Arrays.copyOfRange(log, 38, log.length), HEAD_1,
            Sums.head(3, 3, Rows.sumOf(rows)));
    }

    private static void generationAtFirst() {
        due.says(0, "GENERATION is 0 at first.");
        FactLog x = new FactLog();
        due.is("generation", x.told(1), 0);
        x.fact(0, 0);
        due.is("generation", x.told(1), 0);
        x.save(100);
        due.is("generation, once saved", x.told(1), 1);
    }

    private static void openingTheGreater() {
        due.says(0, "OPENING: of WHOLE HEADS the one with the greater GENERATION (as ints; of like ones HEAD 0):");
        int[][] pairs = {{6, 7, 1}, {7, 6, 0}, {0, 1, 1}, {0, -1, 0}, {-1, 0, 1}, {MIN, MAX, 1}, {MAX, MIN, 0}, {-1, -2, 0},
            {-2, -1, 1}, {255, 256, 1}, {0x01000000, 0x00FFFFFF, 0}, {5, 5, 0}, {0, 0, 0}, {MIN, MIN, 0}, {MAX, MAX, 0}};
        for (int[] pair : pairs) {
            FactLog x = new FactLog();
            Sums.lay(x, HEAD_0, Sums.head(pair[0], 0, 1));
            Sums.lay(x, HEAD_1, Sums.head(pair[1], 0, 1));
            x.open();
            due.is("of " + pair[0] + " and " + pair[1], x.told(4), pair[2]);
            due.is("generation", x.told(1), pair[pair[2]]);
            int place = pair[2] == 0 ? HEAD_0 : HEAD_1;
            x.poke(place + 15, 1);
            x.open();
            due.is("the other, if it is not whole", x.told(4), 1 - pair[2]);
            due.is("generation", x.told(1), pair[1 - pair[2]]);
        }
    }

    private static void openingOfLikeOnes() {
        for (int fewer = 0; fewer < 2; fewer++) {
            FactLog x = new FactLog();
            x.fact(0, 1);
            x.fact(0, 2);
            x.save(100);
            long one = Rows.sumOf(Rows.plain(1)), two = Rows.sumOf(Rows.plain(1), Rows.plain(2));
            Sums.lay(x, HEAD_0, fewer == 0 ? Sums.head(8, 1, one) : Sums.head(8, 2, two));
            Sums.lay(x, HEAD_1, fewer == 0 ? Sums.head(8, 2, two) : Sums.head(8, 1, one));
            due.is("the rows of head 0", x.open(), fewer == 0 ? 1 : 2);
            due.is("head", x.told(4), 0);
        }
        FactLog x = new FactLog();
        x.fact(0, 1);
        x.save(100);
        x.fact(0, 2);
        x.save(100);
        Sums.lay(x, HEAD_1, Sums.head(3, 1, Rows.sumOf(Rows.plain(1))));
        due.is("the greater generation, not the more rows", x.open(), 1);
    }

    private static void openedFacts() {
        due.says(0, "FACTS are those of its ROWS, not CHECKED, not DROPPED; GENERATION is its own;");
        FactLog x = new FactLog();
        x.change(3, 8);
        x.rest(3);
        x.fact(2, 5);
        x.lean(0);
        x.fact(1, 5);
        x.check(0);
        x.check(1);
        x.drop(1);
        x.save(100);
        x.fact(0, 7);
        due.is("what was not saved is gone", x.open(), 2);
        due.is("how many", x.told(0), 2);
        due.is("no third", x.usable(2), FactLog.BAD);
        int[][] want = {{2, 0, 0, 1, 1, 0, 1}, {1, 0, 0, 1, 0, 1, 1}};
        for (int f = 0; f < 2; f++) for (int i = 0; i < 7; i++) due.is("of " + f + ", " + i, x.of(f, i), want[f][i]);
        due.is("thing", x.of(0, 10), 3);
        due.is("digest then", x.of(0, 20), 8);
        due.is("changes then", x.of(0, 30), 1);
        due.is("fact", x.of(1, 40), 0);
        due.is("generation", x.told(1), 1);
        due.is("usable, as it is not dropped", x.usable(1), 1);
        due.is("a change unchecks none", x.change(3, 8), 0);
    }

    private static void openingWithoutAHead() {
        due.says(0, "without one: none, 0.");
        FactLog x = new FactLog();
        x.fact(0, 1);
        due.is("what was not saved is gone", x.open(), 0);
        x.fact(0, 1);
        x.save(100);
        x.fact(0, 2);
        x.save(100);
        x.poke(HEAD_0 + 8, 1);
        x.poke(HEAD_1 + 8, 1);
        for (int place = HEAD_0 - 100; place < HEAD_0; place++) x.poke(place, 37);
        due.is("no head, whatever the log's end is", x.open(), 0);
        due.is("facts", x.told(0), 0);
        due.is("generation", x.told(1), 0);
        due.is("rows", x.told(2), 0);
        due.is("bytes", x.told(3), 0);
        due.is("head", x.told(4), FactLog.NONE);
        x.fact(0, 3);
        x.save(100);
        bytes(x, HEAD_1, Sums.head(1, 1, Rows.sumOf(Rows.plain(3))));
    }

    private static void thingsStay() {
        due.says(0, "THINGS stay.");
        FactLog x = new FactLog();
        x.change(0, 5);
        x.rest(0);
        x.fact(3, 0);
        x.save(100);
        x.change(0, 6);
        x.change(15, -1);
        x.open();
        due.is("digest", x.thing(0, 0), 6);
        due.is("changes", x.thing(0, 1), 2);
        due.is("digest", x.thing(15, 0), -1);
        due.is("changes", x.thing(15, 1), 1);
        due.is("a fact on it is stale", x.of(0, 3), 0);
        x.save(0);
        x.open();
        due.is("digest, from the dark", x.thing(0, 0), 6);
    }

    private static void lightAgain() {
        due.says(0, "The house is not DARK then.");
        FactLog x = new FactLog();
        for (int i = 0; i < 3; i++) {
            x.save(i);
            due.is("dark", x.told(5), 1);
            due.is("dark", x.fact(0, 0), FactLog.DARK);
            due.is("open", x.open(), 0);
            due.is("not dark", x.told(5), 0);
            due.is("fact", x.fact(0, 0), 0);
        }
        due.is("opened in the light", x.open(), 0);
        due.is("not dark", x.told(5), 0);
    }
}
