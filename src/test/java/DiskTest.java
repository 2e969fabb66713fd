/** Promises 12 to 16: the disk, and what is dark. */
public final class DiskTest {
    private static final int MIN = Integer.MIN_VALUE, MAX = Integer.MAX_VALUE;
    private static final int HEAD_0 = 3500, HEAD_1 = 3516;
    private static final Due due = new Due();

    public static void main(String[] args) {
        bytesOfAnEmptySaving();
        bytesOfRows();
        saveRefuses();
        saveCutAnywhere();
        savingBehindAnOlderHead();
        savingOnlyWhatIsNew();
        theGreatestLog();
        dark();
        openingKeepsAndForgets();
        openingChooses();
        generationRunsOver();
        wrongHeads();
        wrongRows();
        pokedRowsAreLeftAlone();
        disk();
        poke();
        told();
        due.end();
    }

    private static void bytes(FactLog x, int place, int... want) {
        for (int i = 0; i < want.length; i++) due.is("disk(" + (place + i) + ")", x.disk(place + i), want[i]);
    }

    private static void bytesOfAnEmptySaving() {
        FactLog x = new FactLog();
        due.is("save(16)", x.save(16), 16);
        bytes(x, 3496, 0, 0, 0, 0);
        bytes(x, HEAD_0, new int[16]);
        bytes(x, HEAD_1, 0, 0, 0, 1, 0, 0, 0, 0, 78, 129, 104, 94, 230, 182, 70, 105);
        due.is("not dark", x.told(5), 0);
        due.is("more power than is wanted", x.save(MAX), 16);
        bytes(x, HEAD_0, Sums.head(2, 0, 1));
    }

    /** Bytes that were reckoned by another program. */
    private static void bytesOfRows() {
        FactLog x = new FactLog();
        x.change(5, -7);
        x.rest(5);
        x.rest(0);
        x.fact(2, -2);
        x.lean(0);
        x.fact(1, 0x0102030405060708L);
        due.is("save", x.save(73), 73);
        due.is("not dark", x.told(5), 0);
        bytes(x, 0, 2, 255, 255, 255, 255, 255, 255, 255, 254, 2, 5, 255, 255, 255, 249, 0, 0, 0, 1,
            0, 0, 0, 0, 0, 0, 0, 0, 0, 0, 122, 28, 183, 57, 144, 117, 162, 196);
        bytes(x, 37, 1, 1, 2, 3, 4, 5, 6, 7, 8, 0, 1, 0, 196, 114, 94, 128, 8, 251, 27, 38, 0);
        bytes(x, HEAD_1, 0, 0, 0, 1, 0, 0, 0, 2, 139, 153, 125, 75, 179, 119, 237, 172);
        due.is("told(3)", x.told(3), 57);
        x.change(5, 0);
        due.is("open", x.open(), 2);
        due.is("value", x.value(1), 0x0102030405060708L);
        due.is("value", x.value(0), -2);
        due.is("digest then", x.of(0, 20), -7);
        due.is("changes then", x.of(0, 30), 1);
        due.is("thing", x.of(0, 11), 0);
        due.is("fact", x.of(1, 40), 0);
        due.is("kind", x.of(0, 0), 2);
    }

    private static void saveRefuses() {
        FactLog x = new FactLog();
        due.is("save(-1)", x.save(-1), FactLog.BAD);
        due.is("save(MIN)", x.save(MIN), FactLog.BAD);
        due.is("not dark", x.told(5), 0);
        due.is("save(0)", x.save(0), 0);
        due.is("dark", x.told(5), 1);
        due.is("DARK goes first", x.save(-1), FactLog.DARK);
    }

    private static void saveCutAnywhere() {
        int all = 19 + 20 + 16;
        for (int power = 0; power <= all; power++) {
            FactLog x = new FactLog();
            x.fact(0, -1);
            x.save(100);
            x.fact(1, -1);
            x.lean(1);
            x.fact(3, -1);
            due.is("save(" + power + ")", x.save(power), power);
            boolean done = power == all;
            due.is("dark", x.told(5), done ? 0 : 1);
            due.is("facts", x.told(0), 3);
            due.is("generation", x.told(1), done ? 2 : 1);
            due.is("rows", x.told(2), done ? 3 : 1);
            due.is("bytes", x.told(3), done ? 58 : 19);
            due.is("byte ahead of the cut", x.disk(20), power >= 2 ? 255 : 0);
            due.is("last byte of the rows", x.disk(57) != 0 || power < 39 ? 1 : 0, 1);
            if (power < 39) due.is("byte at the cut", x.disk(19 + power), 0);
            due.is("open", x.open(), done ? 3 : 1);
            due.is("not dark", x.told(5), 0);
            due.is("head", x.told(4), done ? 0 : 1);
            x.fact(2, 4);
            due.is("save once more", x.save(100), 35);
            due.is("not dark", x.told(5), 0);
            due.is("open", x.open(), done ? 4 : 2);
            due.is("value", x.value(done ? 3 : 1), 4);
        }
    }

    /** The sums of what is saved behind an older head hang on that head's rows. */
    private static void savingBehindAnOlderHead() {
        FactLog x = new FactLog();
        x.fact(0, 1);
        x.save(100);
        x.fact(0, 2);
        x.save(100);
        x.poke(HEAD_0, 1);
        due.is("the older head", x.open(), 1);
        x.fact(0, 3);
        due.is("save", x.save(100), 35);
        due.is("open", x.open(), 2);
        due.is("value", x.value(1), 3);
        x.poke(HEAD_0, 1);
        x.poke(HEAD_1, 1);
        due.is("no head", x.open(), 0);
        x.fact(0, 4);
        due.is("save", x.save(100), 35);
        due.is("open", x.open(), 1);
        due.is("value", x.value(0), 4);
    }

    private static void savingOnlyWhatIsNew() {
        FactLog x = new FactLog();
        x.fact(0, 1);
        due.is("one row", x.save(1000), 35);
        due.is("none", x.save(1000), 16);
        x.fact(0, 2);
        x.fact(0, 3);
        due.is("two rows", x.save(1000), 54);
        due.is("generation", x.told(1), 3);
        due.is("rows", x.told(2), 3);
        due.is("bytes", x.told(3), 57);
        due.is("open", x.open(), 3);
        due.is("head", x.told(4), 1);
        x.fact(0, 4);
        due.is("one row behind an opening", x.save(1000), 35);
        due.is("open", x.open(), 4);
        due.is("value", x.value(3), 4);
    }

    /** 60 facts with all that they can have take 3474 bytes of the log: it is never full. */
    private static void theGreatestLog() {
        FactLog x = new FactLog();
        for (int i = 0; i < 60; i++) {
            for (int k = 0; k < 4; k++) x.rest(k + i % 12);
            for (int k = 1; k <= 3; k++) if (i >= k) x.lean(i - k);
            x.fact(i % 4, i);
        }
        due.is("save", x.save(10000), 3474 + 16);
        due.is("bytes", x.told(3), 3474);
        due.is("open", x.open(), 60);
        due.is("last", x.of(59, 42), 56);
        due.is("rows", x.told(2), 60);
        due.is("no wrong row", x.told(7), FactLog.NONE);
    }

    private static void dark() {
        FactLog x = new FactLog();
        x.rest(1);
        x.fact(0, 5);
        x.shelf(0, 3);
        x.swap();
        x.rest(2);
        x.save(34);
        due.is("change", x.change(1, 1), FactLog.DARK);
        due.is("change BAD", x.change(-1, 1), FactLog.DARK);
        due.is("thing", x.thing(1, 0), FactLog.DARK);
        due.is("rest", x.rest(3), FactLog.DARK);
        due.is("lean", x.lean(0), FactLog.DARK);
        due.is("fact", x.fact(0, 1), FactLog.DARK);
        due.is("check", x.check(0), FactLog.DARK);
        due.is("drop", x.drop(0), FactLog.DARK);
        due.is("usable", x.usable(0), FactLog.DARK);
        due.is("of", x.of(0, 0), FactLog.DARK);
        due.is("value", x.value(0), 0);
        due.is("save", x.save(100), FactLog.DARK);
        due.is("pack", x.pack(0, true), FactLog.DARK);
        due.is("take", x.take(), FactLog.DARK);
        due.is("shelf", x.shelf(0, 1), FactLog.DARK);
        due.is("shelf SIZE", x.shelf(0, -1), FactLog.DARK);
        due.is("swap", x.swap(), FactLog.DARK);
        due.is("move", x.move(0, 0, 0), FactLog.DARK);
        due.is("item", x.item(0), FactLog.DARK);
        due.is("set", x.set(0, 9), FactLog.DARK);
        due.is("disk", x.disk(0), 0);
        due.is("poke", x.poke(0, 0), 0);
        due.throwsIndex("disk(3532)", () -> x.disk(3532));
        due.is("told(5)", x.told(5), 1);
        due.is("told(8)", x.told(8), FactLog.BAD);
        due.is("open", x.open(), 0);
        due.is("nothing changed", x.thing(1, 1), 0);
        due.is("nothing changed", x.item(0), 0);
        due.is("OUT stays", x.item(-1), 3);
        due.is("SHELF stays", x.swap(), 0);
    }

    private static void openingKeepsAndForgets() {
        FactLog x = new FactLog();
        due.is("nothing saved", x.open(), 0);
        due.is("head", x.told(4), FactLog.NONE);
        x.change(1, 10);
        x.rest(1);
        x.fact(0, 0);
        x.fact(0, 0);
        x.check(0);
        x.drop(1);
        x.save(100);
        x.fact(0, 0);
        x.rest(2);
        x.lean(0);
        x.pack(0, true);
        due.is("what is not saved is gone", x.open(), 2);
        due.is("not checked", x.of(0, 1), 0);
        due.is("not dropped", x.of(1, 2), 0);
        due.is("has a row", x.of(1, 6), 1);
        due.is("things stay", x.thing(1, 0), 10);
        due.is("things stay", x.thing(1, 1), 1);
        due.is("OUT stays", x.item(-1), 22);
        due.is("no thing is told", x.rest(3), 1);
        due.is("no fact is told", x.lean(1), 1);
        due.is("generation", x.told(1), 1);
    }

    private static void openingChooses() {
        FactLog x = new FactLog();
        Sums.lay(x, HEAD_0, Sums.head(6, 0, 1));
        x.open();
        due.is("the only one", x.told(4), 0);
        due.is("generation", x.told(1), 6);
        Sums.lay(x, HEAD_1, Sums.head(6, 0, 1));
        x.open();
        due.is("like ones: head 0", x.told(4), 0);
        Sums.lay(x, HEAD_1, Sums.head(7, 0, 1));
        x.open();
        due.is("the greater", x.told(4), 1);
        Sums.lay(x, HEAD_1, Sums.head(MIN, 0, 1));
        x.open();
        due.is("as ints", x.told(4), 0);
        Sums.lay(x, HEAD_0, Sums.head(-1, 0, 1));
        x.open();
        due.is("below 0", x.told(4), 0);
        due.is("generation", x.told(1), -1);
        due.is("save", x.save(16), 16);
        due.is("generation", x.told(1), 0);
        x.open();
        due.is("head", x.told(4), 0);
        x.poke(HEAD_0 + 15, 1);
        x.open();
        due.is("the other one", x.told(4), 1);
        due.is("generation", x.told(1), MIN);
        x.poke(HEAD_1 + 3, 2);
        x.open();
        due.is("none", x.told(4), FactLog.NONE);
        due.is("generation", x.told(1), 0);
    }

    private static void generationRunsOver() {
        FactLog x = new FactLog();
        Sums.lay(x, HEAD_1, Sums.head(MAX, 0, 1));
        x.open();
        x.save(16);
        due.is("generation", x.told(1), MIN);
        bytes(x, HEAD_0, Sums.head(MIN, 0, 1));
        x.save(16);
        due.is("generation", x.told(1), MIN + 1);
        bytes(x, HEAD_1, Sums.head(MIN + 1, 0, 1));
    }

    private static void wrongHeads() {
        for (int rows : new int[] {-1, 61, MIN, MAX}) {
            FactLog x = new FactLog();
            Sums.lay(x, HEAD_1, Sums.head(1, rows, 1));
            due.is("open", x.open(), 0);
            due.is("head", x.told(4), FactLog.NONE);
            due.is("told(7)", x.told(7), 60);
            due.is("told(6)", x.told(6), FactLog.NONE);
        }
        FactLog x = new FactLog();
        Sums.lay(x, HEAD_0, Sums.head(1, 60, 1));
        x.open();
        due.is("60 rows may be, but they are not there", x.told(6), 0);
        for (int place = HEAD_1; place < HEAD_1 + 16; place++) {
            FactLog y = new FactLog();
            y.fact(0, 1);
            y.save(100);
            y.poke(place, 128);
            due.is("open with head poked at " + place, y.open(), 0);
            due.is("rows", y.told(2), 0);
            due.is("bytes", y.told(3), 0);
            due.is("generation", y.told(1), 0);
        }
    }

    private static int[] row(long sum, int... ahead) {
        return Sums.join(ahead, Sums.bytes(Sums.of(sum, ahead), 8));
    }

    /** Lays a log of one good row and this one, with right sums, and a head 1 of two rows: told(7) then. */
    private static int wrongRowOfTwo(int... second) {
        FactLog x = new FactLog();
        int[] first = {0, 0, 0, 0, 0, 0, 0, 0, 1, 0, 0};
        long firstSum = Sums.of(1, first);
        long secondSum = Sums.of(firstSum, second);
        Sums.lay(x, 0, Sums.join(row(1, first), row(firstSum, second)));
        Sums.lay(x, HEAD_0, Sums.head(1, 1, firstSum));
        Sums.lay(x, HEAD_1, Sums.head(2, 2, secondSum));
        int facts = x.open();
        due.is("head 0 is whole", x.told(6), FactLog.NONE);
        due.is("facts", facts, x.told(7) == FactLog.NONE ? 2 : 1);
        due.is("head", x.told(4), x.told(7) == FactLog.NONE ? 1 : 0);
        due.is("bytes", x.told(3), x.told(7) == FactLog.NONE ? 38 + second.length - 11 : 19);
        return x.told(7);
    }

    private static int[] plain(int kind, int[] things, int[] facts) {
        int[] front = {kind, 0, 0, 0, 0, 0, 0, 0, 9, things.length};
        for (int thing : things) front = Sums.join(front, new int[] {thing, 0, 0, 0, 1, 0, 0, 0, 2});
        return Sums.join(front, new int[] {facts.length}, facts);
    }

    private static void wrongRows() {
        int[] none = {};
        due.is("right", wrongRowOfTwo(plain(3, new int[] {15, 0, 1, 2}, new int[] {0})), FactLog.NONE);
        due.is("kind", wrongRowOfTwo(plain(4, none, none)), 1);
        due.is("kind", wrongRowOfTwo(plain(255, none, none)), 1);
        due.is("five things", wrongRowOfTwo(plain(0, new int[] {0, 1, 2, 3, 4}, none)), 1);
        due.is("no such thing", wrongRowOfTwo(plain(0, new int[] {16}, none)), 1);
        due.is("thing twice", wrongRowOfTwo(plain(0, new int[] {3, 4, 3}, none)), 1);
        due.is("four facts", wrongRowOfTwo(plain(0, none, new int[] {0, 0, 0, 0})), 1);
        due.is("its own number", wrongRowOfTwo(plain(0, none, new int[] {1})), 1);
        due.is("fact twice", wrongRowOfTwo(plain(0, none, new int[] {0, 0})), 1);
        for (int place = 0; place < 38; place++) {
            FactLog x = new FactLog();
            x.fact(0, 1);
            x.save(100);
            x.fact(0, 1);
            x.save(100);
            x.poke(place, 64);
            due.is("open", x.open(), place < 19 ? 0 : 1);
            due.is("told(6)", x.told(6), place < 19 ? 0 : 1);
            due.is("told(7)", x.told(7), place < 19 ? 0 : FactLog.NONE);
        }
    }

    /** What comes later hangs on the facts, not on what was poked meanwhile. */
    private static void pokedRowsAreLeftAlone() {
        FactLog x = new FactLog();
        x.fact(0, 1);
        x.save(100);
        x.poke(18, 5);
        x.fact(0, 2);
        x.save(100);
        due.is("row 0 is not so", x.open(), 0);
        x.poke(18, 5);
        due.is("all is well again", x.open(), 2);
    }

    private static void disk() {
        FactLog x = new FactLog();
        x.fact(0, -1);
        x.save(100);
        due.is("0 .. 255", x.disk(1), 255);
        long sum = Sums.of(1, 0, 255, 255, 255, 255, 255, 255, 255, 255, 0, 0);
        due.is("last place", x.disk(3531), Sums.head(1, 1, sum)[15]);
        for (int place : new int[] {-1, 3532, MIN, MAX}) {
            due.throwsIndex("disk(" + place + ")", () -> x.disk(place));
            due.throwsIndex("poke(" + place + ")", () -> x.poke(place, 1));
        }
    }

    private static void poke() {
        FactLog x = new FactLog();
        due.is("poke", x.poke(3531, 255), 255);
        due.is("xor", x.poke(3531, 15), 240);
        due.is("lowest 8 bits", x.poke(3531, 0x7FFFFF01), 241);
        due.is("mask below 0", x.poke(3531, -1), 14);
        due.is("disk", x.disk(3531), 14);
        due.is("the first place", x.poke(0, -128), 128);
        due.is("the one before stays", x.disk(3530), 0);
    }

    private static void told() {
        FactLog x = new FactLog();
        int[] atFirst = {0, 0, 0, 0, FactLog.NONE, 0, FactLog.NONE, FactLog.NONE};
        for (int what = 0; what < 8; what++) due.is("told(" + what + ")", x.told(what), atFirst[what]);
        for (int what : new int[] {-1, 8, MIN, MAX}) due.is("told(" + what + ")", x.told(what), FactLog.BAD);
        x.fact(0, 0);
        due.is("facts", x.told(0), 1);
        due.is("no rows yet", x.told(2), 0);
        x.save(100);
        int[] saved = {1, 1, 1, 19, FactLog.NONE, 0, FactLog.NONE, FactLog.NONE};
        for (int what = 0; what < 8; what++) due.is("told(" + what + ")", x.told(what), saved[what]);
        x.open();
        due.is("head", x.told(4), 1);
        x.poke(0, 1);
        due.is("of the latest opening", x.told(7), FactLog.NONE);
        x.save(100);
        due.is("saving is no opening", x.told(4), 1);
        x.open();
        due.is("both heads have that row", x.told(6), 0);
        due.is("both heads have that row", x.told(7), 0);
    }
}
