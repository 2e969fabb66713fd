import java.util.Arrays;

/** Promises 17 to 23, sentence by sentence: parcels. */
public final class ParcelsTest {
    private static final int MIN = Integer.MIN_VALUE, MAX = Integer.MAX_VALUE;
    private static final int NULL = -11, INDEX = -12, STORE = -13, SIZE = -14;
    private static final int BYTES = 0, INTS = 1;
    private static final Due due = new Due();

    public static void main(String[] args) {
        pack();
        packTheGreatest();
        packIsBad();
        take();
        takeIntoAnother();
        takeOfOtherThings();
        takeOfNothing();
        takeFindsCounts();
        takeFindsRows();
        takeFindsNumbersOfFacts();
        takeFindsTheFirst();
        takeFindsOddInts();
        takeFindsSums();
        takeFindsWhatIsBehind();
        takeFindsEnds();
        takeIsFull();
        shelf();
        shelfIsBad();
        shelfOfSizeBelowZero();
        swap();
        move();
        moveFails();
        moveBeyondEnds();
        item();
        itemFails();
        anyInt();
        set();
        setFails();
        due.end();
    }

    private static void items(FactLog x, int... want) {
        due.is("how many", x.item(-1), want.length);
        for (int i = 0; i < want.length; i++) due.is("item " + i, x.item(i), want[i]);
    }

    /** Makes OUT an array with these items, of bytes or ints; SHELF becomes what OUT was. */
    private static void layOut(FactLog x, int kind, int... items) {
        x.shelf(kind, items.length);
        x.swap();
        for (int i = 0; i < items.length; i++) x.set(i, items[i]);
    }

    private static void pack() {
        due.says(17, "OUT becomes a PARCEL of a FACT, of ints (wide) or bytes: how many items.");
        FactLog x = new FactLog();
        x.fact(0, 99);
        x.change(7, -2);
        x.rest(7);
        x.fact(2, 0x1122334455667788L);
        x.fact(0, 98);
        x.lean(1);
        x.fact(3, -1);
        x.lean(3);
        x.lean(1);
        x.fact(1, 0);
        x.fact(0, 97);
        int[] front = {3,
            2, 17, 34, 51, 68, 85, 102, 119, 136, 1, 7, 255, 255, 255, 254, 0, 0, 0, 1, 0,
            3, 255, 255, 255, 255, 255, 255, 255, 255, 0, 1, 0,
            1, 0, 0, 0, 0, 0, 0, 0, 0, 0, 2, 1, 0};
        int[] all = Sums.join(front, new int[] {Sums.ofParcel(front)});
        x.shelf(INTS, 2);
        for (boolean wide : new boolean[] {true, false}) {
            due.is("pack", x.pack(4, wide), all.length);
            items(x, all);
            due.is("SHELF stays", x.swap(), 2);
            due.is("SHELF stays", x.item(-1), 2);
            due.is("ints or bytes", x.swap(), wide ? 2 : 1);
        }
        due.is("a shorter one", x.pack(0, true), 13);
        items(x, Rows.parcel(Rows.plain(99)));
        due.is("its end", x.item(13), INDEX);
        x.set(3, 5);
        due.is("anew", x.pack(0, true), 13);
        due.is("as it was", x.item(3), 0);
        due.is("facts stay", x.told(0), 6);
        x.rest(1);
        x.pack(0, true);
        due.is("what is told stays", x.rest(2), 2);
    }

    private static void packTheGreatest() {
        FactLog x = new FactLog();
        for (int i = 0; i < 60; i++) {
            for (int k = 0; k < 4; k++) x.rest(k);
            for (int k = 1; k <= 3; k++) if (i >= k) x.lean(i - k);
            x.fact(0, i);
        }
        due.is("pack", x.pack(59, true), 1 + 60 * 47 + 57 * 3 + 3 + 1);
        due.is("count", x.item(0), 60);
        due.is("full", x.take(), FactLog.FULL);
        x.open();
        due.is("take", x.take(), 60);
        due.is("last", x.of(59, 42), 56);
        due.is("full", x.take(), FactLog.FULL);
    }

    private static void packIsBad() {
        due.says(17, "BAD.");
        FactLog x = new FactLog();
        due.is("no fact", x.pack(0, true), FactLog.BAD);
        due.is("OUT stays NOTHING", x.item(-1), NULL);
        x.fact(0, 0);
        x.pack(0, false);
        for (int fact : new int[] {-1, 1, 60, MIN, MAX}) {
            due.is("pack", x.pack(fact, false), FactLog.BAD);
            due.is("pack", x.pack(fact, true), FactLog.BAD);
        }
        due.is("OUT stays", x.item(-1), 13);
        x.swap();
        due.is("OUT stays", x.swap(), 1);
    }

    private static void take() {
        due.says(18, "OUT is a PARCEL: its FACTS come behind those here, with DIGESTS and CHANGES as it tells: how many; OUT "
            + "stays.");
        FactLog x = new FactLog();
        x.change(2, 4);
        x.rest(2);
        x.fact(2, 50);
        x.lean(0);
        x.fact(1, 50);
        x.check(1);
        x.save(1000);
        x.pack(1, false);
        x.drop(0);
        x.change(2, 5);
        due.is("take", x.take(), 2);
        due.is("told(0)", x.told(0), 4);
        int[][] want = {{2, 0, 0, 1, 1, 0, 0}, {1, 0, 0, 1, 0, 1, 0}};
        for (int f = 0; f < 2; f++) for (int i = 0; i < 7; i++) due.is("of " + f + ", " + i, x.of(2 + f, i), want[f][i]);
        due.is("thing", x.of(2, 10), 2);
        due.is("digest as it tells", x.of(2, 20), 4);
        due.is("changes as it tells", x.of(2, 30), 1);
        due.is("fact, numbered anew", x.of(3, 40), 2);
        due.is("values", x.value(2) + x.value(3), 100);
        due.is("those here stay", x.of(0, 2), 1);
        due.is("those here stay", x.of(1, 40), 0);
        due.is("those here have rows", x.of(1, 6), 1);
        due.is("OUT stays", x.item(-1), 34);
        due.is("OUT stays", x.take(), 2);
        due.is("fact, numbered anew", x.of(5, 40), 4);
        due.is("others stay", x.of(3, 40), 2);
        x.save(1000);
        due.is("saved and opened", x.open(), 6);
        due.is("a parcel outlives an opening", x.take(), 2);
        due.is("what comes can be checked", x.check(7), 1);
        due.is("and unchecked", x.change(2, 4), 1);
    }

    /** The parcel goes from one object to the other item by item. */
    private static void takeIntoAnother() {
        FactLog x = new FactLog();
        for (int i = 0; i < 3; i++) x.change(8, 60 + i);
        x.rest(8);
        x.fact(3, 5);
        x.fact(0, 6);
        x.lean(1);
        x.lean(0);
        x.fact(1, 11);
        x.pack(2, true);
        FactLog y = new FactLog();
        y.fact(0, 9);
        y.rest(1);
        y.lean(0);
        int[] all = new int[x.item(-1)];
        for (int i = 0; i < all.length; i++) all[i] = x.item(i);
        layOut(y, BYTES, all);
        due.is("take", y.take(), 3);
        due.is("digest as it tells", y.of(1, 20), 62);
        due.is("changes as it tells", y.of(1, 30), 3);
        due.is("not fresh here", y.of(1, 3), 0);
        due.is("things here stay", y.thing(8, 1), 0);
        due.is("first fact", y.of(3, 40), 2);
        due.is("second fact", y.of(3, 41), 1);
        due.is("what was told stays told", y.fact(0, 0), 4);
        due.is("thing", y.of(4, 10), 1);
        due.is("fact", y.of(4, 40), 0);
    }

    private static void takeOfOtherThings() {
        FactLog x = new FactLog();
        int[][] things = {{15, MIN, MAX}, {0, -1, -1}, {9, 0, MIN}, {1, 255, 256}};
        Sums.layOut(x, Rows.parcel(Rows.row(2, Long.MIN_VALUE, things)));
        due.is("take", x.take(), 1);
        for (int i = 0; i < 4; i++) {
            due.is("thing", x.of(0, 10 + i), things[i][0]);
            due.is("digest", x.of(0, 20 + i), things[i][1]);
            due.is("changes", x.of(0, 30 + i), things[i][2]);
        }
        due.is("value", x.value(0), Long.MIN_VALUE);
        x.pack(0, true);
        items(x, Rows.parcel(Rows.row(2, Long.MIN_VALUE, things)));
    }

    private static void takeOfNothing() {
        due.says(18, "FAILURE 1.");
        FactLog x = new FactLog();
        due.is("NOTHING", x.take(), NULL);
        x.shelf(BYTES, 2);
        due.is("SHELF is not OUT", x.take(), NULL);
        x.swap();
        due.is("OUT is something", x.take(), -101);
        for (int i = 0; i < 60; i++) x.fact(0, 0);
        x.swap();
        due.is("NOTHING, and no room", x.take(), NULL);
    }

    /** take() of these items in a new object, of ints and, where they may be, of bytes. */
    private static void takes(String what, int want, int... items) {
        for (int kind : new int[] {BYTES, INTS}) {
            FactLog x = new FactLog();
            layOut(x, kind, items);
            due.is(what + (kind == BYTES ? ", bytes" : ", ints"), x.take(), want);
            due.is("facts", x.told(0), Math.max(want, 0));
        }
    }

    private static void takeFindsCounts() {
        due.says(18, "-100 less the item: the first one that can't be so (a count of FACTS above 60;");
        for (int count : new int[] {61, 62, 128, 255}) takes(count + " facts", -100, count, Sums.ofParcel(count));
        for (int count : new int[] {1, 59, 60}) takes(count + " facts, and a KIND that can't be so", -101, count, 4);
        takes("no facts", 0, 0, 128);
        FactLog x = new FactLog();
        for (int i = 0; i < 60; i++) {
            if (i > 0) x.lean(i - 1);
            x.fact(0, 0);
        }
        int size = x.pack(59, true);
        x.open();
        x.shelf(INTS, size + 11);
        x.move(0, 0, size);
        x.swap();
        due.is("behind a parcel of 60", x.take(), -100 - size);
        x.set(0, 61);
        int[] rows = new int[60 * 12 - 1];
        for (int i = 0; i < 60; i++) {
            int[] row = i > 0 ? Rows.plain(0, i - 1) : Rows.plain(0);
            System.arraycopy(row, 0, rows, i > 0 ? 12 * i - 1 : 0, row.length);
        }
        x.set(size - 1, 0);
        x.set(size + 10, Sums.ofParcel(Sums.join(new int[] {61}, rows, Rows.plain(0))));
        due.is("61 facts, all of them right", x.take(), -100);
        due.is("nothing comes", x.told(0), 0);
    }

    /** A parcel with one good row and this one and a right sum. */
    private static void takesTwo(String what, int want, int... second) {
        takes(what, want, Rows.parcel(Rows.plain(9), second));
    }

    private static int[] on(int... things) {
        return Rows.row(0, 9, Rows.things(things));
    }

    private static void takeFindsRows() {
        due.says(18, "what a ROW can't have, at its item;");
        takesTwo("all that may be", 2, Rows.row(3, -1, Rows.things(15, 0, 1, 2), 0));
        for (int kind : new int[] {4, 128, 255}) takesTwo("kind", -112, Rows.row(kind, 9, Rows.NO_THINGS));
        takesTwo("five things", -121, on(0, 1, 2, 3, 4));
        takesTwo("255 things", -121, 0, 0, 0, 0, 0, 0, 0, 0, 0, 255);
        takesTwo("no such thing", -122, on(16));
        takesTwo("no such thing", -122, on(255, 1));
        takesTwo("the second is no such thing", -131, on(1, 16));
        takesTwo("the fourth is no such thing", -149, on(1, 2, 3, 16));
        takesTwo("a thing twice", -131, on(1, 1));
        takesTwo("a thing twice, first and last", -149, on(1, 2, 3, 1));
        takes("the first row's kind", -101, Rows.parcel(Rows.row(4, 0, Rows.NO_THINGS)));
        takes("the first row's things", -110, Rows.parcel(on(0, 1, 2, 3, 4)));
        takes("the first row's thing", -111, Rows.parcel(on(16)));
    }

    private static void takeFindsNumbersOfFacts() {
        takesTwo("its one before", 2, Rows.plain(9, 0));
        takesTwo("four facts", -122, Rows.plain(9, 0, 1, 2, 3));
        takesTwo("255 facts", -122, 0, 0, 0, 0, 0, 0, 0, 0, 0, 0, 255);
        takesTwo("its own number", -123, Rows.plain(9, 1));
        takesTwo("a later number", -123, Rows.plain(9, 2));
        takesTwo("a number far behind", -123, Rows.plain(9, 255));
        takesTwo("a fact twice", -124, Rows.plain(9, 0, 0));
        takesTwo("the second is its own number", -124, Rows.plain(9, 0, 1));
        takes("the first row on a fact", -112, Rows.parcel(Rows.plain(9, 0)));
        int[] plain = Rows.plain(9);
        takes("three facts", 4, Rows.parcel(plain, plain, plain, Rows.plain(9, 2, 0, 1)));
        takes("one of three twice", -147, Rows.parcel(plain, plain, plain, Rows.plain(9, 2, 0, 2)));
        takes("one of three too great", -146, Rows.parcel(plain, plain, plain, Rows.plain(9, 2, 3, 1)));
        FactLog x = new FactLog();
        for (int i = 0; i < 9; i++) x.fact(0, 0);
        Sums.layOut(x, Rows.parcel(plain, Rows.plain(9, 1)));
        due.is("numbers of the parcel, not of those here", x.take(), -123);
    }

    /** Also where a wrong item would be right as the sum of those ahead of it. */
    private static void takeFindsTheFirst() {
        takesTwo("kind ahead of all else", -112, 4, 0, 0, 0, 0, 0, 0, 0, 0, 5, 4);
        takesTwo("count of things ahead of a thing", -121, 0, 0, 0, 0, 0, 0, 0, 0, 0, 5, 16, 4);
        takes("a wrong row ahead of its end", -101, 2, 9);
        takes("a wrong row ahead of what is behind", -101, 1, 4, 0, 0, 0, 0, 0, 0, 0, 0, 0, 0, 0, 0, 0);
        int looked = 0;
        for (int count = 1; count <= 60; count++) {
            int sum = Sums.ofParcel(count);
            if (sum <= 3) continue;
            takes("a KIND that is the sum", -101, count, sum, 0);
            looked++;
        }
        due.is("some were looked at", looked > 20 ? 1 : 0, 1);
    }

    /** A new object with a parcel of two facts, 34 items, in OUT. */
    private static FactLog packed(boolean wide) {
        FactLog x = new FactLog();
        x.rest(4);
        x.fact(0, -1);
        x.lean(0);
        x.fact(0, 7);
        due.is("pack", x.pack(1, wide), 34);
        return x;
    }

    private static void takeFindsOddInts() {
        due.says(18, "an int that is not 0 .. 255;");
        for (int i = 0; i < 34; i++) {
            int was = packed(true).item(i);
            for (int odd : new int[] {256, -1, MIN, MAX, was + 256, was - 256, was | MIN}) {
                FactLog x = packed(true);
                x.set(i, odd);
                due.is("take with item " + i + " " + odd, x.take(), -100 - i);
                due.is("nothing comes", x.told(0), 2);
                x.set(i, was);
                due.is("mended", x.take(), 2);
            }
        }
    }

    private static void takeFindsSums() {
        due.says(18, "a SUM that is another one;");
        for (int odd = 1; odd < 256; odd++) {
            for (boolean wide : new boolean[] {true, false}) {
                FactLog x = packed(wide);
                x.set(33, x.item(33) ^ odd);
                due.is("take", x.take(), -133);
            }
        }
        for (int i = 1; i < 9; i++) {
            FactLog x = packed(true);
            x.set(1 + i, x.item(1 + i) ^ 1);
            due.is("a byte of the value is another one", x.take(), -133);
            due.is("nothing comes", x.told(0), 2);
        }
        for (int sum = 0; sum < 256; sum++) takes("of no facts", sum == 128 ? 0 : -101, 0, sum);
    }

    private static void takeFindsWhatIsBehind() {
        due.says(18, "one behind that),");
        int[] parcel = Rows.parcel(Rows.plain(3));
        for (int more = 1; more < 4; more++) takes("behind the sum", -113, Arrays.copyOf(parcel, parcel.length + more));
        takes("a second parcel behind the first", -113, Sums.join(parcel, parcel));
        takes("behind a parcel of no facts", -102, 0, 128, 0);
        takes("the sum goes first", -101, 0, 127, 0);
        FactLog x = new FactLog();
        layOut(x, INTS, 0, 128, MIN);
        due.is("an odd int behind", x.take(), -102);
        x.shelf(INTS, 4000);
        x.move(0, 0, 2);
        x.swap();
        due.is("many behind", x.take(), -102);
    }

    private static void takeFindsEnds() {
        due.says(18, "or its end, if more is wanted: nothing comes.");
        takes("no items", -100);
        takes("no sum", -101, 0);
        takes("no rows", -101, 60);
        for (boolean wide : new boolean[] {true, false}) {
            for (int size = 0; size <= 34; size++) {
                FactLog x = packed(wide);
                x.shelf(wide ? INTS : BYTES, size);
                x.move(0, 0, size);
                x.swap();
                due.is("take of " + size + " items", x.take(), size == 34 ? 2 : -100 - size);
                due.is("facts", x.told(0), size == 34 ? 4 : 2);
            }
        }
        FactLog x = packed(true);
        x.swap();
        layOut(x, INTS, 1, 0, 0, 0);
        due.is("what stood behind in an older array is not its own", x.take(), -104);
    }

    private static void takeIsFull() {
        due.says(18, "FULL: no room (behind that).");
        FactLog x = packed(true);
        for (int i = 2; i < 58; i++) x.fact(0, i);
        due.is("just room", x.take(), 2);
        due.is("told(0)", x.told(0), 60);
        due.is("its number anew", x.of(59, 40), 58);
        due.is("no room", x.take(), FactLog.FULL);
        x.set(33, x.item(33) ^ 1);
        due.is("a wrong sum goes first", x.take(), -133);
        x.set(21, 4);
        due.is("a wrong item goes first", x.take(), -121);
        layOut(x, INTS, 0, 128);
        due.is("room for no facts", x.take(), 0);
        FactLog y = packed(false);
        for (int i = 2; i < 59; i++) y.fact(0, i);
        due.is("room for one of two", y.take(), FactLog.FULL);
        due.is("none comes", y.told(0), 59);
        y.set(21, 4);
        due.is("what has no room is looked at, too", y.take(), -121);
        due.is("a clean place", y.fact(0, 3), 59);
        due.is("with no thing", y.of(59, 4), 0);
        due.is("with no fact", y.of(59, 5), 0);
    }

    private static void shelf() {
        due.says(19, "SHELF becomes a new ARRAY of bytes (kind 0), ints (1), n items 0: n.");
        FactLog x = new FactLog();
        for (int kind : new int[] {BYTES, INTS}) {
            for (int n : new int[] {0, 1, 5, 3999, 4000}) {
                due.is("shelf", x.shelf(kind, n), n);
                due.is("its kind", x.swap(), kind + 1);
                due.is("how many", x.item(-1), n);
                for (int i = 0; i < Math.min(n, 5); i++) due.is("items are 0", x.item(i), 0);
                for (int i = Math.max(n - 5, 0); i < n; i++) due.is("items are 0", x.item(i), 0);
                for (int i = 0; i < Math.min(n, 5); i++) x.set(i, 99);
                for (int i = Math.max(n - 5, 0); i < n; i++) x.set(i, 99);
                x.swap();
                due.is("OUT is another one", x.item(-1), NULL);
            }
        }
        x.shelf(INTS, 4000);
        x.swap();
        x.shelf(INTS, 2);
        due.is("OUT stays", x.item(-1), 4000);
        x.set(1, 7);
        x.swap();
        items(x, 0, 0);
    }

    private static void shelfIsBad() {
        due.says(19, "BAD: kind, n above 4000.");
        FactLog x = new FactLog();
        for (int kind : new int[] {-1, 2, 3, MIN, MAX}) due.is("kind", x.shelf(kind, 1), FactLog.BAD);
        for (int n : new int[] {4001, 4002, MAX}) {
            due.is("above 4000", x.shelf(BYTES, n), FactLog.BAD);
            due.is("above 4000", x.shelf(INTS, n), FactLog.BAD);
        }
        due.is("both", x.shelf(2, 4001), FactLog.BAD);
        due.is("BAD ahead of SIZE", x.shelf(2, -1), FactLog.BAD);
        due.is("SHELF stays NOTHING", x.swap(), 0);
        due.is("just not above", x.shelf(BYTES, 4000), 4000);
    }

    private static void shelfOfSizeBelowZero() {
        due.says(19, "FAILURE 4.");
        FactLog x = new FactLog();
        for (int n : new int[] {-1, -4000, MIN}) {
            due.is("below 0", x.shelf(BYTES, n), SIZE);
            due.is("below 0", x.shelf(INTS, n), SIZE);
        }
        due.is("SHELF stays NOTHING", x.swap(), 0);
        due.is("just not below 0", x.shelf(INTS, 0), 0);
        x.shelf(BYTES, 2);
        due.is("below 0", x.shelf(INTS, -1), SIZE);
        due.is("SHELF stays", x.swap(), 1);
        due.is("SHELF stays", x.item(-1), 2);
    }

    private static void swap() {
        due.says(20, "OUT and SHELF change places: 0 nothing, 1 bytes, 2 ints: what OUT is then.");
        FactLog x = new FactLog();
        due.is("both nothing", x.swap(), 0);
        x.shelf(BYTES, 1);
        due.is("bytes", x.swap(), 1);
        due.is("nothing", x.swap(), 0);
        due.is("OUT is NOTHING", x.item(-1), NULL);
        due.is("bytes", x.swap(), 1);
        x.set(0, 5);
        x.shelf(INTS, 2);
        due.is("ints", x.swap(), 2);
        due.is("how many", x.item(-1), 2);
        due.is("bytes", x.swap(), 1);
        items(x, 5);
        x.shelf(BYTES, 0);
        due.is("bytes, though there is none", x.swap(), 1);
        due.is("how many", x.item(-1), 0);
        x.shelf(INTS, 0);
        due.is("ints, though there is none", x.swap(), 2);
    }

    private static void move() {
        due.says(21, "n items of OUT from i on go to SHELF from j on: n.");
        for (int kind : new int[] {BYTES, INTS}) {
            FactLog x = new FactLog();
            layOut(x, kind, 10, 11, 12, 13, 14);
            x.shelf(kind, 3);
            due.is("none", x.move(0, 0, 0), 0);
            due.is("none, at both ends", x.move(5, 3, 0), 0);
            due.is("two", x.move(3, 1, 2), 2);
            items(x, 10, 11, 12, 13, 14);
            x.swap();
            items(x, 0, 13, 14);
            due.is("one back", x.move(1, 0, 1), 1);
            x.swap();
            items(x, 13, 11, 12, 13, 14);
            due.is("all that have room", x.move(2, 0, 3), 3);
            x.swap();
            items(x, 12, 13, 14);
            x.set(0, 99);
            x.swap();
            due.is("OUT is another one", x.item(2), 12);
        }
        FactLog x = new FactLog();
        layOut(x, INTS, MIN, -1, 256, MAX);
        x.shelf(INTS, 4);
        due.is("any ints", x.move(0, 0, 4), 4);
        x.swap();
        items(x, MIN, -1, 256, MAX);
    }

    private static void moveFails() {
        due.says(21, "FAILURES 1 (either), 3,");
        FactLog x = new FactLog();
        due.is("both NOTHING", x.move(0, 0, 0), NULL);
        x.shelf(BYTES, 5);
        due.is("OUT is NOTHING", x.move(0, 0, 0), NULL);
        due.is("NULL ahead of INDEX", x.move(9, 9, 9), NULL);
        x.swap();
        due.is("SHELF is NOTHING", x.move(0, 0, 0), NULL);
        due.is("NULL ahead of INDEX", x.move(9, 9, 9), NULL);
        x.shelf(INTS, 3);
        due.is("bytes to ints", x.move(0, 0, 1), STORE);
        due.is("bytes to ints, none", x.move(0, 0, 0), STORE);
        due.is("STORE ahead of INDEX", x.move(-1, 0, 9), STORE);
        x.swap();
        due.is("ints to bytes", x.move(0, 0, 1), STORE);
        due.is("STORE ahead of INDEX", x.move(0, 0, MIN), STORE);
    }

    private static void moveBeyondEnds() {
        due.says(21, "2 (i, j, n below 0, beyond an end).");
        FactLog x = new FactLog();
        layOut(x, BYTES, 1, 2, 3, 4, 5);
        x.shelf(BYTES, 3);
        int[][] wrong = {{-1, 0, 1}, {0, -1, 1}, {0, 0, -1}, {-1, 0, 0}, {0, -1, 0}, {3, 0, 3}, {0, 1, 3}, {0, 0, 4}, {5, 0, 1},
            {0, 3, 1}, {6, 0, 0}, {0, 4, 0}, {6, 0, -1}, {1, 1, -1}, {5, 3, -1}, {MAX, 0, 1}, {0, MAX, 1}, {0, 0, MAX},
            {1, 0, MAX}, {0, 1, MAX}, {1, 1, MAX}, {MIN, 0, 1}, {0, MIN, 1}, {0, 0, MIN}, {1, 1, MIN}, {MAX, MAX, MAX},
            {MIN, MIN, MIN}, {MAX, MAX, 0}, {MAX, MAX, MIN}, {MIN, MIN, MAX}, {MAX, 0, MAX}, {3, 0, MAX - 2}};
        for (int[] w : wrong) due.is("move(" + w[0] + ", " + w[1] + ", " + w[2] + ")", x.move(w[0], w[1], w[2]), INDEX);
        items(x, 1, 2, 3, 4, 5);
        x.swap();
        items(x, 0, 0, 0);
        due.is("beyond the other one's end", x.move(0, 3, 3), INDEX);
        due.is("just within", x.move(0, 2, 3), 3);
    }

    private static void item() {
        due.says(22, "Item i of OUT (bytes 0 .. 255); i = -1: how many.");
        FactLog x = new FactLog();
        layOut(x, BYTES, 0, 127, 128, 255);
        due.is("how many", x.item(-1), 4);
        items(x, 0, 127, 128, 255);
        x.shelf(INTS, 7);
        due.is("of OUT, not of SHELF", x.item(-1), 4);
        x.swap();
        due.is("how many", x.item(-1), 7);
        x.shelf(BYTES, 0);
        x.swap();
        due.is("none", x.item(-1), 0);
    }

    private static void itemFails() {
        due.says(22, "FAILURES 1, 2.");
        FactLog x = new FactLog();
        for (int i : new int[] {0, -1, -2, 1, MIN, MAX}) due.is("NOTHING", x.item(i), NULL);
        x.shelf(INTS, 3);
        due.is("SHELF is not OUT", x.item(0), NULL);
        x.swap();
        for (int i : new int[] {3, 4, -2, -3, MIN, MAX}) due.is("item " + i, x.item(i), INDEX);
        due.is("the last one", x.item(2), 0);
        x.shelf(BYTES, 1);
        x.swap();
        due.is("an end of its own", x.item(1), INDEX);
        x.shelf(BYTES, 0);
        x.swap();
        due.is("no items", x.item(0), INDEX);
    }

    private static void anyInt() {
        due.says(22, "(An int may be any.)");
        FactLog x = new FactLog();
        int[] all = {MIN, MAX, -1, 256, NULL, INDEX, FactLog.DARK, FactLog.BAD};
        layOut(x, INTS, all);
        items(x, all);
    }

    private static void set() {
        due.says(23, "Item i of OUT becomes v (of bytes its lowest 8 bits): 1.");
        FactLog x = new FactLog();
        x.shelf(BYTES, 3);
        x.swap();
        int[][] pairs = {{-1, 255}, {0x12345678, 0x78}, {256, 0}, {128, 128}, {MIN, 0}, {MAX, 255}, {-128, 128}, {300, 44}};
        for (int[] pair : pairs) {
            due.is("set", x.set(1, pair[0]), 1);
            items(x, 0, pair[1], 0);
        }
        x.shelf(INTS, 3);
        due.is("the first", x.set(0, 7), 1);
        due.is("the last", x.set(2, 8), 1);
        items(x, 7, 44, 8);
        x.swap();
        items(x, 0, 0, 0);
        for (int[] pair : pairs) {
            due.is("set", x.set(1, pair[0]), 1);
            items(x, 0, pair[0], 0);
        }
    }

    private static void setFails() {
        due.says(23, "FAILURES 1, 2.");
        FactLog x = new FactLog();
        for (int i : new int[] {0, -1, 1, MIN, MAX}) due.is("NOTHING", x.set(i, 1), NULL);
        x.shelf(BYTES, 2);
        due.is("SHELF is not OUT", x.set(0, 1), NULL);
        x.swap();
        for (int i : new int[] {2, 3, -1, -2, MIN, MAX}) due.is("set(" + i + ")", x.set(i, 1), INDEX);
        items(x, 0, 0);
        x.shelf(INTS, 4000);
        x.swap();
        due.is("beyond the greatest", x.set(4000, 1), INDEX);
        due.is("the last of the greatest", x.set(3999, 1), 1);
        x.shelf(INTS, 0);
        x.swap();
        due.is("no items", x.set(0, 1), INDEX);
    }
}
