/** Promises 17 to 23: parcels. */
public final class ParcelsTest {
    private static final int MIN = Integer.MIN_VALUE, MAX = Integer.MAX_VALUE;
    private static final int NULL = -11, INDEX = -12, STORE = -13, SIZE = -14;
    private static final int[] NO_NUMBERS = {};
    private static final Due due = new Due();

    public static void main(String[] args) {
        pack();
        packTheGreatest();
        take();
        takeNothing();
        takeFinds();
        takeFindsEveryEnd();
        takeFindsEveryOddInt();
        takeIsFull();
        takeKeepsWhatIsTold();
        shelf();
        swap();
        move();
        item();
        set();
        due.end();
    }

    private static void items(FactLog x, int... want) {
        due.is("how many", x.item(-1), want.length);
        for (int i = 0; i < want.length; i++) due.is("item " + i, x.item(i), want[i]);
    }

    private static void pack() {
        FactLog x = new FactLog();
        due.is("no fact", x.pack(0, true), FactLog.BAD);
        due.is("OUT stays", x.item(-1), NULL);
        x.fact(0, 99);
        x.change(7, -2);
        x.rest(7);
        x.fact(2, 0x1122334455667788L);
        x.fact(0, 98);
        x.lean(1);
        x.fact(3, -1);
        x.lean(3);
        x.lean(1);
        x.fact(1, 0);
        x.fact(0, 97);
        int[] front = {3,
            2, 17, 34, 51, 68, 85, 102, 119, 136, 1, 7, 255, 255, 255, 254, 0, 0, 0, 1, 0,
            3, 255, 255, 255, 255, 255, 255, 255, 255, 0, 1, 0,
            1, 0, 0, 0, 0, 0, 0, 0, 0, 0, 2, 1, 0};
        int[] all = Sums.join(front, new int[] {Sums.ofParcel(front)});
        due.is("pack", x.pack(4, true), all.length);
        items(x, all);
        due.is("pack", x.pack(4, false), all.length);
        items(x, all);
        due.is("bytes", x.swap(), 0);
        due.is("bytes", x.swap(), 1);
        due.is("alone", x.pack(0, true), 13);
        due.is("count", x.item(0), 1);
        for (int fact : new int[] {-1, 6, 60, MIN, MAX}) due.is("pack", x.pack(fact, false), FactLog.BAD);
        due.is("OUT stays", x.item(-1), 13);
        x.drop(0);
        due.is("a dropped one", x.pack(0, false), 13);
    }

    private static void packTheGreatest() {
        FactLog x = new FactLog();
        for (int i = 0; i < 60; i++) {
            for (int k = 0; k < 4; k++) x.rest(k);
            for (int k = 1; k <= 3; k++) if (i >= k) x.lean(i - k);
            x.fact(0, i);
        }
        due.is("pack", x.pack(59, true), 1 + 60 * 47 + 57 * 3 + 3 + 1);
        due.is("count", x.item(0), 60);
        due.is("full", x.take(), FactLog.FULL);
        x.open();
        due.is("take", x.take(), 60);
        due.is("last", x.of(59, 42), 56);
        due.is("full", x.take(), FactLog.FULL);
    }

    private static void take() {
        FactLog x = new FactLog();
        x.change(2, 4);
        x.rest(2);
        x.fact(2, 50);
        x.lean(0);
        x.fact(1, 50);
        x.check(1);
        x.save(1000);
        x.pack(1, false);
        x.drop(0);
        x.change(2, 5);
        due.is("take", x.take(), 2);
        due.is("told(0)", x.told(0), 4);
        due.is("digest as it tells", x.of(2, 20), 4);
        due.is("changes as it tells", x.of(2, 30), 1);
        due.is("thing", x.of(2, 10), 2);
        due.is("kind", x.of(2, 0), 2);
        due.is("fact, numbered anew", x.of(3, 40), 2);
        due.is("value", x.value(3), 50);
        due.is("not checked", x.of(3, 1), 0);
        due.is("not dropped", x.of(2, 2), 0);
        due.is("no row", x.of(2, 6), 0);
        due.is("a row", x.of(1, 6), 1);
        due.is("OUT stays", x.take(), 2);
        due.is("fact, numbered anew", x.of(5, 40), 4);
        due.is("others stay", x.of(3, 40), 2);
        x.save(1000);
        due.is("saved and opened", x.open(), 6);
        due.is("a parcel outlives an opening", x.take(), 2);
    }

    private static void takeNothing() {
        FactLog x = new FactLog();
        due.is("NOTHING", x.take(), NULL);
        x.shelf(0, 2);
        due.is("SHELF is not OUT", x.take(), NULL);
        x.swap();
        due.is("a sum that is another one", x.take(), -101);
        x.set(1, 128);
        due.is("a parcel of no facts", x.take(), 0);
        due.is("told(0)", x.told(0), 0);
        x.shelf(1, 0);
        x.swap();
        due.is("no items", x.take(), -100);
    }

    private static int[] row(int kind, int[] things, int[] facts) {
        int[] front = {kind, 0, 0, 0, 0, 0, 0, 0, 9, things.length};
        for (int thing : things) front = Sums.join(front, new int[] {thing, 0, 0, 0, 1, 0, 0, 0, 2});
        return Sums.join(front, new int[] {facts.length}, facts);
    }

    /** take() of a parcel with one good row and this one and a right sum. */
    private static int takeTwo(int... second) {
        int[] front = Sums.join(new int[] {2}, row(0, NO_NUMBERS, NO_NUMBERS), second);
        FactLog x = new FactLog();
        Sums.layOut(x, Sums.join(front, new int[] {Sums.ofParcel(front)}));
        int answer = x.take();
        due.is("facts", x.told(0), answer == 2 ? 2 : 0);
        return answer;
    }

    private static void takeFinds() {
        due.is("right", takeTwo(row(3, new int[] {15, 0, 1, 2}, new int[] {0})), 2);
        due.is("kind", takeTwo(row(4, NO_NUMBERS, NO_NUMBERS)), -112);
        due.is("five things", takeTwo(row(0, new int[] {0, 1, 2, 3, 4}, NO_NUMBERS)), -121);
        due.is("no such thing", takeTwo(row(0, new int[] {1, 16}, NO_NUMBERS)), -131);
        due.is("thing twice", takeTwo(row(0, new int[] {1, 2, 1}, NO_NUMBERS)), -140);
        due.is("four facts", takeTwo(row(0, NO_NUMBERS, new int[] {0, 1, 2, 3})), -122);
        due.is("its own number", takeTwo(row(0, NO_NUMBERS, new int[] {1})), -123);
        due.is("fact twice", takeTwo(row(0, NO_NUMBERS, new int[] {0, 0})), -124);
        FactLog x = new FactLog();
        Sums.layOut(x, 61, Sums.ofParcel(61));
        due.is("61 facts", x.take(), -100);
        x.set(0, -1);
        due.is("below 0", x.take(), -100);
        x.set(0, 60);
        x.set(1, 4);
        due.is("60 facts, and a kind that can't be so", x.take(), -101);
        Sums.layOut(x, 0, 128, 0);
        due.is("one behind", x.take(), -102);
        Sums.layOut(x, 0, 128 + 256);
        due.is("a sum above 255", x.take(), -101);
        Sums.layOut(x, 0);
        due.is("no sum", x.take(), -101);
    }

    private static FactLog packed() {
        FactLog x = new FactLog();
        x.rest(4);
        x.fact(0, -1);
        x.lean(0);
        x.fact(0, 7);
        x.pack(1, true);
        return x;
    }

    private static void takeFindsEveryEnd() {
        int length = 1 + 20 + 12 + 1;
        for (int size = 0; size <= length; size++) {
            FactLog x = packed();
            x.shelf(1, size);
            x.move(0, 0, size);
            x.swap();
            due.is("take of " + size + " items", x.take(), size == length ? 2 : -100 - size);
            due.is("facts", x.told(0), size == length ? 4 : 2);
        }
    }

    private static void takeFindsEveryOddInt() {
        for (int i = 0; i < 34; i++) {
            for (int odd : new int[] {256, -1, MIN, MAX}) {
                FactLog x = packed();
                x.set(i, odd);
                due.is("take with item " + i + " odd", x.take(), -100 - i);
                due.is("facts", x.told(0), 2);
            }
            FactLog x = packed();
            x.set(i, x.item(i) ^ 32);
            due.is("an item altered", x.take() <= -100 ? 1 : 0, 1);
        }
    }

    private static void takeIsFull() {
        FactLog x = packed();
        for (int i = 2; i < 58; i++) x.fact(0, i);
        due.is("just room", x.take(), 2);
        due.is("told(0)", x.told(0), 60);
        due.is("its number anew", x.of(59, 40), 58);
        due.is("no room", x.take(), FactLog.FULL);
        x.set(33, x.item(33) ^ 1);
        due.is("a wrong item goes first", x.take(), -133);
        FactLog y = packed();
        for (int i = 2; i < 59; i++) y.fact(0, i);
        due.is("room for one of two", y.take(), FactLog.FULL);
        due.is("none comes", y.told(0), 59);
        due.is("a clean place", y.fact(0, 3), 59);
        due.is("with nothing on it", y.of(59, 4), 0);
    }

    private static void takeKeepsWhatIsTold() {
        FactLog x = packed();
        x.rest(1);
        x.lean(1);
        x.take();
        due.is("number", x.fact(0, 0), 4);
        due.is("thing", x.of(4, 10), 1);
        due.is("fact", x.of(4, 40), 1);
    }

    private static void shelf() {
        FactLog x = new FactLog();
        for (int kind : new int[] {-1, 2, MIN, MAX}) due.is("kind", x.shelf(kind, 1), FactLog.BAD);
        due.is("above 4000", x.shelf(0, 4001), FactLog.BAD);
        due.is("above 4000", x.shelf(1, MAX), FactLog.BAD);
        due.is("below 0", x.shelf(0, -1), SIZE);
        due.is("below 0", x.shelf(1, MIN), SIZE);
        due.is("BAD goes first", x.shelf(2, -1), FactLog.BAD);
        due.is("nothing changed", x.swap(), 0);
        due.is("4000", x.shelf(1, 4000), 4000);
        due.is("ints", x.swap(), 2);
        due.is("how many", x.item(-1), 4000);
        x.set(3999, 77);
        x.set(0, 78);
        due.is("none", x.shelf(0, 0), 0);
        due.is("bytes", x.swap(), 1);
        due.is("how many", x.item(-1), 0);
        due.is("the other stays", x.swap(), 2);
        due.is("item", x.item(3999), 77);
        x.swap();
        due.is("refused", x.shelf(1, -1), SIZE);
        due.is("SHELF stays", x.swap(), 2);
        x.swap();
        due.is("anew", x.shelf(1, 4000), 4000);
        x.swap();
        due.is("items are 0", x.item(0), 0);
        due.is("items are 0", x.item(3999), 0);
    }

    private static void swap() {
        FactLog x = new FactLog();
        due.is("nothing", x.swap(), 0);
        x.shelf(0, 1);
        due.is("bytes", x.swap(), 1);
        due.is("nothing", x.swap(), 0);
        due.is("OUT is NOTHING", x.item(-1), NULL);
        due.is("bytes", x.swap(), 1);
        x.shelf(1, 2);
        due.is("ints", x.swap(), 2);
        due.is("how many", x.item(-1), 2);
        due.is("bytes", x.swap(), 1);
        due.is("how many", x.item(-1), 1);
    }

    private static void move() {
        FactLog x = new FactLog();
        due.is("both NOTHING", x.move(0, 0, 0), NULL);
        x.shelf(0, 5);
        due.is("OUT is NOTHING", x.move(0, 0, 0), NULL);
        x.swap();
        due.is("SHELF is NOTHING", x.move(-1, 0, 0), NULL);
        x.shelf(1, 3);
        due.is("unlike", x.move(0, 0, 1), STORE);
        due.is("STORE goes ahead of INDEX", x.move(-1, 0, 9), STORE);
        x.shelf(0, 3);
        for (int i = 0; i < 5; i++) x.set(i, 10 + i);
        due.is("i below 0", x.move(-1, 0, 1), INDEX);
        due.is("j below 0", x.move(0, -1, 1), INDEX);
        due.is("n below 0", x.move(0, 0, -1), INDEX);
        due.is("beyond OUT", x.move(3, 0, 3), INDEX);
        due.is("beyond SHELF", x.move(0, 1, 3), INDEX);
        due.is("beyond OUT with none", x.move(6, 0, 0), INDEX);
        due.is("beyond SHELF with none", x.move(0, 4, 0), INDEX);
        due.is("at the ends with none", x.move(5, 3, 0), 0);
        for (int odd : new int[] {MIN, MAX}) {
            due.is("i", x.move(odd, 0, 1), INDEX);
            due.is("j", x.move(0, odd, 1), INDEX);
            due.is("n", x.move(0, 0, odd), INDEX);
            due.is("all", x.move(odd, odd, odd), INDEX);
            due.is("i and n", x.move(1, 1, odd), INDEX);
        }
        due.is("move", x.move(3, 1, 2), 2);
        due.is("OUT stays", x.item(3), 13);
        x.swap();
        items(x, 0, 13, 14);
        due.is("and back", x.move(1, 0, 1), 1);
        x.swap();
        items(x, 13, 11, 12, 13, 14);
    }

    private static void item() {
        FactLog x = new FactLog();
        due.is("NOTHING", x.item(0), NULL);
        due.is("NOTHING", x.item(-1), NULL);
        due.is("NULL goes ahead of INDEX", x.item(MIN), NULL);
        x.shelf(1, 3);
        x.swap();
        x.set(2, MIN);
        due.is("any int", x.item(2), MIN);
        due.is("how many", x.item(-1), 3);
        for (int i : new int[] {3, -2, MIN, MAX}) due.is("item", x.item(i), INDEX);
        x.shelf(0, 1);
        x.swap();
        due.is("an end of its own", x.item(1), INDEX);
        x.set(0, 200);
        due.is("0 .. 255", x.item(0), 200);
    }

    private static void set() {
        FactLog x = new FactLog();
        due.is("NOTHING", x.set(0, 1), NULL);
        due.is("NULL goes ahead of INDEX", x.set(-1, 1), NULL);
        x.shelf(0, 2);
        x.swap();
        due.is("set", x.set(1, -1), 1);
        due.is("lowest 8 bits", x.item(1), 255);
        due.is("set", x.set(1, 0x12345678), 1);
        due.is("lowest 8 bits", x.item(1), 0x78);
        due.is("the other stays", x.item(0), 0);
        for (int i : new int[] {2, -1, MIN, MAX}) due.is("set", x.set(i, 1), INDEX);
        x.shelf(1, 1);
        x.swap();
        due.is("set", x.set(0, -1), 1);
        due.is("any int", x.item(0), -1);
    }
}
