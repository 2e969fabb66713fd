/** The terms' third section, sentence by sentence: parcels and failures; and the order of refusals. */
public final class ParcelTermsTest {
    private static final int NULL = -11, INDEX = -12, STORE = -13, SIZE = -14;
    private static final Due due = new Due();

    public static void main(String[] args) {
        nothingAtFirst();
        countAndRows();
        groundInOrder();
        numbersInThisParcel();
        lastItem();
        failures();
        refusalsInOrder();
        due.end();
    }

    private static void items(FactLog x, int... want) {
        due.is("how many", x.item(-1), want.length);
        for (int i = 0; i < want.length; i++) due.is("item " + i, x.item(i), want[i]);
    }

    /** Both kinds of parcels have the same items. */
    private static void packs(FactLog x, int fact, int... want) {
        for (boolean wide : new boolean[] {true, false}) {
            due.is("pack", x.pack(fact, wide), want.length);
            items(x, want);
        }
    }

    private static void nothingAtFirst() {
        due.says(0, "======== 3 PARCELS. OUT and SHELF are NOTHING (at first), or an ARRAY of bytes, or of ints.");
        FactLog x = new FactLog();
        due.is("SHELF at first", x.swap(), 0);
        due.is("OUT at first", x.swap(), 0);
        due.is("no item", x.item(-1), NULL);
        x.shelf(0, 1);
        due.is("bytes", x.swap(), 1);
        x.shelf(1, 1);
        due.is("ints", x.swap(), 2);
        due.is("bytes", x.swap(), 1);
        x.fact(0, 0);
        x.pack(0, true);
        x.swap();
        due.is("a parcel of ints", x.swap(), 2);
        x.pack(0, false);
        x.swap();
        due.is("a parcel of bytes", x.swap(), 1);
    }

    private static void countAndRows() {
        due.says(0, "A PARCEL of a FACT: first how many FACTS (1 item), then their ROWS (each byte an item; of ints 0 .. 255) "
            + "without SUMS:");
        FactLog x = new FactLog();
        x.fact(3, -2);
        packs(x, 0, Rows.parcel(Rows.row(3, -2, Rows.NO_THINGS)));
        x.change(15, 0x80FF7F01);
        for (int thing : new int[] {15, 0, 3, 14}) x.rest(thing);
        x.fact(2, 0x80FF7F0180FF7F01L);
        int[][] things = {{15, 0x80FF7F01, 1}, {0, 0, 0}, {3, 0, 0}, {14, 0, 0}};
        packs(x, 1, Rows.parcel(Rows.row(2, 0x80FF7F0180FF7F01L, things)));
        x.check(1);
        x.drop(1);
        packs(x, 1, Rows.parcel(Rows.row(2, 0x80FF7F0180FF7F01L, things)));
        due.is("items of a fact with four things", x.item(-1), 1 + 47 + 1);
    }

    private static void groundInOrder() {
        due.says(0, "of all on which it rests, by it or others, and itself, in order,");
        FactLog x = new FactLog();
        for (int i = 0; i < 3; i++) x.fact(0, i);
        x.lean(1);
        x.fact(1, 3);
        x.fact(2, 4);
        x.lean(3);
        x.lean(0);
        x.fact(3, 5);
        x.fact(0, 6);
        packs(x, 5, Rows.parcel(Rows.plain(0), Rows.plain(1), Rows.row(1, 3, Rows.NO_THINGS, 1),
            Rows.row(3, 5, Rows.NO_THINGS, 2, 0)));
        packs(x, 3, Rows.parcel(Rows.plain(1), Rows.row(1, 3, Rows.NO_THINGS, 0)));
        packs(x, 6, Rows.parcel(Rows.plain(6)));
        packs(x, 0, Rows.parcel(Rows.plain(0)));
        FactLog y = new FactLog();
        for (int i = 0; i < 60; i++) {
            y.fact(0, i);
            y.lean(i);
        }
        due.is("60, each on the one before", y.pack(59, true), 1 + 11 + 59 * 12 + 1);
        due.is("how many", y.item(0), 60);
        due.is("the first one's value", y.item(9), 0);
        due.is("the second one's value", y.item(20), 1);
        due.is("the second one's fact", y.item(23), 0);
        due.is("the last one's value", y.item(1 + 11 + 58 * 12 + 8), 59);
        due.is("the last one's fact", y.item(1 + 11 + 58 * 12 + 11), 58);
        due.is("30, each on the one before", y.pack(29, true), 1 + 11 + 29 * 12 + 1);
    }

    private static void numbersInThisParcel() {
        due.says(0, "with numbers of FACTS from 0 on in this PARCEL;");
        FactLog x = new FactLog();
        for (int i = 0; i < 57; i++) x.fact(0, i);
        for (int base : new int[] {56, 3, 40}) x.lean(base);
        x.fact(0, 57);
        x.lean(57);
        x.lean(56);
        x.lean(2);
        x.fact(0, 58);
        packs(x, 58, Rows.parcel(Rows.plain(2), Rows.plain(3), Rows.plain(40), Rows.plain(56), Rows.plain(57, 3, 1, 2),
            Rows.plain(58, 4, 3, 0)));
        packs(x, 57, Rows.parcel(Rows.plain(3), Rows.plain(40), Rows.plain(56), Rows.plain(57, 2, 0, 1)));
        packs(x, 56, Rows.parcel(Rows.plain(56)));
    }

    private static void lastItem() {
        due.says(0, "last of all one item: SUM of all bytes from 7 on, its lowest 8 bits.");
        due.is("of no facts", Sums.ofParcel(0), 128);
        due.is("by hand: (7 xor 0) turned is 896", Sums.of(7, 0), 896 * 0x9E3779B97F4A7C15L);
        FactLog x = new FactLog();
        for (int value = 0; value < 40; value++) {
            x.fact(value % 4, value * 0x0123456789ABCDEFL);
            due.is("pack", x.pack(value, value % 8 < 4), 13);
            int[] parcel = Rows.parcel(Rows.row(value % 4, value * 0x0123456789ABCDEFL, Rows.NO_THINGS));
            due.is("the last item of parcel " + value, x.item(12), parcel[12]);
            due.is("0 .. 255", x.item(12) & ~255, 0);
        }
    }

    private static void failures() {
        due.says(0, "FAILURES: -10 less 1 NULL: NOTHING; 2 INDEX; 3 STORE: unlike ARRAYS; 4 SIZE: below 0.");
        FactLog x = new FactLog();
        due.is("NULL", x.item(0), NULL);
        due.is("NULL", x.set(0, 0), NULL);
        due.is("NULL", x.take(), NULL);
        due.is("NULL", x.move(0, 0, 0), NULL);
        due.is("SIZE", x.shelf(0, -1), SIZE);
        x.shelf(0, 1);
        x.swap();
        x.shelf(1, 1);
        due.is("STORE, bytes to ints", x.move(0, 0, 1), STORE);
        due.is("STORE, though there is nothing to store", x.move(0, 0, 0), STORE);
        x.swap();
        due.is("STORE, ints to bytes", x.move(0, 0, 1), STORE);
        due.is("INDEX", x.item(1), INDEX);
        due.is("INDEX", x.set(1, 0), INDEX);
        x.shelf(1, 1);
        due.is("INDEX", x.move(0, 0, 2), INDEX);
    }

    private static void refusalsInOrder() {
        due.says(0, "REFUSALS else: BAD (no such THING, FACT, number out of its bounds), NO, FULL, the first told, ahead of "
            + "FAILURES;");
        FactLog x = new FactLog();
        due.is("BAD ahead of SIZE", x.shelf(2, -1), FactLog.BAD);
        due.is("BAD ahead of SIZE", x.shelf(-1, -1), FactLog.BAD);
        due.is("NULL ahead of INDEX", x.item(-2), NULL);
        due.is("NULL ahead of INDEX", x.set(-2, 0), NULL);
        due.is("NULL ahead of INDEX", x.move(-1, -1, -1), NULL);
        x.shelf(0, 1);
        due.is("NULL ahead of INDEX", x.move(-1, -1, -1), NULL);
        x.swap();
        due.is("NULL ahead of INDEX", x.move(-1, -1, -1), NULL);
        x.shelf(1, 1);
        due.is("STORE ahead of INDEX", x.move(-1, -1, -1), STORE);
        due.is("STORE ahead of INDEX", x.move(0, 0, 2), STORE);
        for (int i = 0; i < 60; i++) x.fact(1, 1);
        for (int i = 0; i < 4; i++) x.rest(i);
        for (int i = 0; i < 3; i++) x.lean(i);
        due.is("BAD ahead of FULL", x.rest(16), FactLog.BAD);
        due.is("BAD ahead of FULL", x.lean(60), FactLog.BAD);
        due.is("BAD ahead of FULL", x.fact(4, 0), FactLog.BAD);
        due.is("a wrong item ahead of FULL", x.take(), -101);
        due.is("BAD, not NO", x.drop(60), FactLog.BAD);
        due.is("BAD, not NO", x.check(60), FactLog.BAD);
        x.swap();
        x.shelf(0, 0);
        x.swap();
        due.is("its end ahead of FULL", x.take(), -100);
    }
}
