import java.util.function.ToLongFunction;

/** The terms' last sentences: what is refused, fails, or is asked for in the dark changes nothing that can be seen. */
public final class RefusedTest {
    private static final int MIN = Integer.MIN_VALUE, MAX = Integer.MAX_VALUE;
    private static final int NULL = -11, INDEX = -12, STORE = -13, SIZE = -14;
    private static final Due due = new Due();

    private static State.Scene scene;
    private static State before;

    public static void main(String[] args) {
        refusedWithFacts();
        refusedOnTheDisk();
        refusedWhenFull();
        refusedParcels();
        nothingThere();
        wrongParcels();
        unlikeAndBeyond();
        asking();
        dark();
        darkAheadOfAll();
        due.end();
    }

    private static void in(State.Scene made) {
        scene = made;
        before = State.of(made);
    }

    /** The call's answer is due, and all stays as it was. */
    private static void stays(String call, long want, ToLongFunction<FactLog> made) {
        due.is(call, made.applyAsLong(scene.made()), want);
        State.of(() -> {
            FactLog x = scene.made();
            made.applyAsLong(x);
            return x;
        }).mustBe(due, "behind " + call, before);
    }

    /** Six facts, of which five have rows; things are told; OUT is of bytes, SHELF of ints. */
    private static FactLog rich() {
        FactLog x = new FactLog();
        x.change(1, 5);
        x.change(2, -1);
        x.rest(1);
        x.rest(2);
        x.fact(0, 40);
        x.lean(0);
        x.fact(1, 40);
        x.rest(3);
        x.fact(2, 7);
        for (int i = 0; i < 3; i++) x.lean(i);
        x.fact(3, 8);
        x.rest(4);
        x.fact(0, -5);
        x.check(0);
        x.check(1);
        x.drop(2);
        x.change(4, 9);
        x.save(1000);
        x.fact(0, 6);
        x.pack(1, true);
        x.swap();
        x.pack(1, false);
        x.rest(5);
        x.rest(6);
        x.lean(1);
        return x;
    }

    private static FactLog saved() {
        FactLog x = rich();
        x.save(1000);
        x.open();
        x.poke(2000, 3);
        return x;
    }

    private static void refusedWithFacts() {
        due.says(0, "what is refused or FAILS changes nothing.");
        in(RefusedTest::rich);
        for (int thing : new int[] {-1, 16, MIN, MAX}) {
            stays("change", FactLog.BAD, x -> x.change(thing, 77));
            stays("thing", FactLog.BAD, x -> x.thing(thing, 0));
            stays("rest", FactLog.BAD, x -> x.rest(thing));
        }
        for (int fact : new int[] {-1, 6, 60, MIN, MAX}) {
            stays("lean", FactLog.BAD, x -> x.lean(fact));
            stays("check", FactLog.BAD, x -> x.check(fact));
            stays("drop", FactLog.BAD, x -> x.drop(fact));
            stays("usable", FactLog.BAD, x -> x.usable(fact));
            stays("of", FactLog.BAD, x -> x.of(fact, 0));
            stays("value", 0, x -> x.value(fact));
            stays("pack", FactLog.BAD, x -> x.pack(fact, true));
        }
        for (int kind : new int[] {-1, 4, MIN, MAX}) stays("fact", FactLog.BAD, x -> x.fact(kind, 77));
        stays("thing", FactLog.BAD, x -> x.thing(1, 2));
        stays("of", FactLog.BAD, x -> x.of(1, 7));
        stays("check of a dropped one", FactLog.NO, x -> x.check(2));
        stays("check of one on a dropped one", FactLog.NO, x -> x.check(3));
        stays("drop of a dropped one", FactLog.NO, x -> x.drop(2));
        in(() -> {
            FactLog x = rich();
            x.change(2, 0);
            return x;
        });
        stays("check of a checked one on a stale one", FactLog.NO, x -> x.check(1));
    }

    private static long thrown(Due.Call call) {
        try {
            return call.answer();
        } catch (ArrayIndexOutOfBoundsException e) {
            return -999;
        }
    }

    private static void refusedOnTheDisk() {
        in(RefusedTest::saved);
        for (int power : new int[] {-1, MIN}) stays("save", FactLog.BAD, x -> x.save(power));
        for (int what : new int[] {-1, 8}) stays("told", FactLog.BAD, x -> x.told(what));
        for (int place : new int[] {-1, 3532, MIN, MAX}) {
            stays("poke", -999, x -> thrown(() -> x.poke(place, 255)));
            stays("disk", -999, x -> thrown(() -> x.disk(place)));
        }
    }

    private static FactLog full() {
        FactLog x = rich();
        for (int i = 6; i < 60; i++) x.fact(0, i);
        return x;
    }

    private static void refusedWhenFull() {
        in(() -> {
            FactLog x = full();
            x.rest(1);
            x.lean(59);
            return x;
        });
        stays("fact", FactLog.FULL, x -> x.fact(0, 77));
        stays("fact", FactLog.BAD, x -> x.fact(4, 77));
        stays("take", FactLog.FULL, x -> x.take());
        in(() -> {
            FactLog x = rich();
            x.rest(7);
            x.rest(8);
            x.lean(2);
            x.lean(4);
            return x;
        });
        for (int thing : new int[] {0, 4, 9, 15}) stays("rest", FactLog.FULL, x -> x.rest(thing));
        for (int fact : new int[] {0, 3, 5}) stays("lean", FactLog.FULL, x -> x.lean(fact));
        stays("rest on one told", 4, x -> x.rest(7));
        stays("lean on one told", 3, x -> x.lean(4));
        stays("rest", FactLog.BAD, x -> x.rest(16));
        stays("lean", FactLog.BAD, x -> x.lean(6));
        in(() -> {
            FactLog x = rich();
            for (int i = 6; i < 59; i++) x.fact(0, i);
            return x;
        });
        stays("take of two with room for one", FactLog.FULL, x -> x.take());
    }

    private static void refusedParcels() {
        in(RefusedTest::rich);
        for (int kind : new int[] {-1, 2, MIN, MAX}) {
            stays("shelf", FactLog.BAD, x -> x.shelf(kind, 1));
            stays("shelf", FactLog.BAD, x -> x.shelf(kind, -1));
        }
        stays("shelf", FactLog.BAD, x -> x.shelf(0, 4001));
        stays("shelf", FactLog.BAD, x -> x.shelf(1, MAX));
        stays("shelf", SIZE, x -> x.shelf(0, -1));
        stays("shelf", SIZE, x -> x.shelf(1, MIN));
        stays("move", STORE, x -> x.move(0, 0, 1));
        for (int i : new int[] {-2, 43, MIN, MAX}) {
            stays("item", INDEX, x -> x.item(i));
            stays("set", INDEX, x -> x.set(i, 77));
        }
        stays("set", INDEX, x -> x.set(-1, 77));
        due.is("items of OUT", rich().item(-1), 43);
    }

    private static void nothingThere() {
        in(FactLog::new);
        stays("take", NULL, x -> x.take());
        stays("move", NULL, x -> x.move(0, 0, 0));
        stays("item", NULL, x -> x.item(0));
        stays("item", NULL, x -> x.item(-1));
        stays("set", NULL, x -> x.set(0, 1));
        stays("pack", FactLog.BAD, x -> x.pack(0, false));
        in(() -> {
            FactLog x = new FactLog();
            x.shelf(0, 3);
            return x;
        });
        stays("move", NULL, x -> x.move(0, 0, 1));
        stays("set", NULL, x -> x.set(0, 1));
        in(() -> {
            FactLog x = new FactLog();
            x.shelf(0, 3);
            x.swap();
            x.set(0, 5);
            return x;
        });
        stays("move", NULL, x -> x.move(0, 0, 1));
    }

    /** A parcel that is wrong at any of its items comes in by no part. */
    private static void wrongParcels() {
        for (int i = 0; i < 43; i++) {
            int at = i;
            in(() -> {
                FactLog x = rich();
                x.swap();
                x.set(at, 256);
                return x;
            });
            stays("take of a parcel wrong at " + i, -100 - i, x -> x.take());
            in(() -> {
                FactLog x = rich();
                x.shelf(0, at);
                x.move(0, 0, at);
                x.swap();
                return x;
            });
            stays("take of a parcel that ends at " + i, -100 - i, x -> x.take());
        }
        in(() -> {
            FactLog x = rich();
            x.shelf(0, 44);
            x.move(0, 0, 43);
            x.swap();
            return x;
        });
        stays("take of a parcel with one behind", -143, x -> x.take());
    }

    private static void unlikeAndBeyond() {
        in(() -> {
            FactLog x = rich();
            x.shelf(0, 5);
            x.swap();
            for (int i = 0; i < 5; i++) x.set(i, 50 + i);
            return x;
        });
        int[][] wrong = {{-1, 0, 1}, {0, -1, 1}, {0, 0, -1}, {3, 0, 3}, {0, 40, 4}, {0, 0, 6}, {6, 0, 0}, {0, 44, 0},
            {1, 1, MAX}, {MAX, 1, 1}, {1, MAX, 1}, {MIN, 0, 1}};
        for (int[] w : wrong) stays("move", INDEX, x -> x.move(w[0], w[1], w[2]));
    }

    /** Calls that only ask, or tell what is so already. */
    private static void asking() {
        in(RefusedTest::rich);
        stays("thing", 5, x -> x.thing(1, 0));
        stays("rest on one told", 2, x -> x.rest(6));
        stays("lean on one told", 1, x -> x.lean(1));
        stays("check of a checked one", 1, x -> x.check(0));
        stays("usable", 1, x -> x.usable(1));
        stays("of", 1, x -> x.of(2, 2));
        stays("value", -5, x -> x.value(4));
        stays("disk", 40, x -> x.disk(8));
        stays("poke", 40, x -> x.poke(8, 256));
        stays("told", 6, x -> x.told(0));
        stays("item", 43, x -> x.item(-1));
        stays("item", 2, x -> x.item(0));
        stays("set to the like", 1, x -> x.set(0, 2));
    }

    private static void dark() {
        due.says(0, "DARK: but for open(), poke(), disk(), told() all calls answer DARK, -5 (ahead of all; nothing changes).");
        for (int power : new int[] {0, 18, 19, 34}) {
            in(() -> {
                FactLog x = rich();
                due.is("save", x.save(power), power);
                return x;
            });
            stays("change", FactLog.DARK, x -> x.change(1, 77));
            stays("thing", FactLog.DARK, x -> x.thing(1, 0));
            stays("rest", FactLog.DARK, x -> x.rest(7));
            stays("lean", FactLog.DARK, x -> x.lean(0));
            stays("fact", FactLog.DARK, x -> x.fact(0, 77));
            stays("check", FactLog.DARK, x -> x.check(5));
            stays("drop", FactLog.DARK, x -> x.drop(0));
            stays("usable", FactLog.DARK, x -> x.usable(0));
            stays("of", FactLog.DARK, x -> x.of(0, 0));
            stays("value", 0, x -> x.value(0));
            stays("save", FactLog.DARK, x -> x.save(1000));
            stays("pack", FactLog.DARK, x -> x.pack(0, true));
            stays("take", FactLog.DARK, x -> x.take());
            stays("shelf", FactLog.DARK, x -> x.shelf(0, 1));
            stays("swap", FactLog.DARK, x -> x.swap());
            stays("move", FactLog.DARK, x -> x.move(0, 0, 0));
            stays("item", FactLog.DARK, x -> x.item(0));
            stays("set", FactLog.DARK, x -> x.set(0, 77));
            stays("disk", 40, x -> x.disk(8));
            stays("poke", 40, x -> x.poke(8, 0));
            stays("told", 1, x -> x.told(5));
            stays("told", FactLog.BAD, x -> x.told(8));
            stays("poke where there is no place", -999, x -> thrown(() -> x.poke(3532, 1)));
        }
        FactLog x = scene.made();
        due.is("poke", x.poke(3500, 255), 255 ^ State.diskOf(scene)[3500]);
        due.is("open", x.open(), 5);
        due.is("not dark", x.usable(0), 1);
    }

    private static void darkAheadOfAll() {
        in(() -> {
            FactLog x = new FactLog();
            x.save(0);
            return x;
        });
        stays("change", FactLog.DARK, x -> x.change(-1, 1));
        stays("thing", FactLog.DARK, x -> x.thing(16, 2));
        stays("rest", FactLog.DARK, x -> x.rest(-1));
        stays("lean", FactLog.DARK, x -> x.lean(0));
        stays("fact", FactLog.DARK, x -> x.fact(-1, 1));
        stays("check", FactLog.DARK, x -> x.check(-1));
        stays("drop", FactLog.DARK, x -> x.drop(0));
        stays("usable", FactLog.DARK, x -> x.usable(0));
        stays("of", FactLog.DARK, x -> x.of(0, 99));
        stays("save", FactLog.DARK, x -> x.save(-1));
        stays("save", FactLog.DARK, x -> x.save(0));
        stays("pack", FactLog.DARK, x -> x.pack(0, true));
        stays("take of NOTHING", FactLog.DARK, x -> x.take());
        stays("shelf", FactLog.DARK, x -> x.shelf(2, 1));
        stays("shelf below 0", FactLog.DARK, x -> x.shelf(0, -1));
        stays("move of NOTHING", FactLog.DARK, x -> x.move(0, 0, 0));
        stays("item of NOTHING", FactLog.DARK, x -> x.item(-1));
        stays("set of NOTHING", FactLog.DARK, x -> x.set(0, 1));
    }
}
