/** Promises 1 to 11: things and facts. */
public final class FactsTest {
    private static final int MIN = Integer.MIN_VALUE, MAX = Integer.MAX_VALUE;
    private static final int[] NO_THINGS = {-1, 16, 17, MIN, MAX};
    private static final Due due = new Due();

    public static void main(String[] args) {
        newObject();
        change();
        changeUnchecks();
        thing();
        rest();
        lean();
        fact();
        factsAreFull();
        checkPlain();
        checkProof();
        checkRefused();
        drop();
        usable();
        freshByKinds();
        of();
        value();
        due.end();
    }

    private static void newObject() {
        FactLog x = new FactLog();
        for (int place = 0; place < 3532; place++) {
            // An object is used for at most 512 calls.
            if (place % 512 == 0) x = new FactLog();
            due.is("disk(" + place + ")", x.disk(place), 0);
        }
        x = new FactLog();
        due.is("told(0)", x.told(0), 0);
        for (int thing = 0; thing < 16; thing++) {
            due.is("digest", x.thing(thing, 0), 0);
            due.is("changes", x.thing(thing, 1), 0);
        }
        due.is("usable(0)", x.usable(0), FactLog.BAD);
        due.is("swap()", x.swap(), 0);
    }

    private static void change() {
        FactLog x = new FactLog();
        due.is("change(15)", x.change(15, -9), 0);
        due.is("digest", x.thing(15, 0), -9);
        due.is("changes", x.thing(15, 1), 1);
        due.is("change to the like", x.change(15, -9), 0);
        due.is("changes", x.thing(15, 1), 2);
        due.is("change(0)", x.change(0, MAX), 0);
        due.is("digest", x.thing(0, 0), MAX);
        due.is("others stay", x.thing(1, 1), 0);
        for (int thing : NO_THINGS) due.is("change(" + thing + ")", x.change(thing, 1), FactLog.BAD);
    }

    private static void changeUnchecks() {
        FactLog x = new FactLog();
        x.rest(3);
        x.fact(0, 0);
        x.lean(0);
        x.fact(0, 0);
        x.lean(1);
        x.fact(0, 0);
        x.rest(4);
        x.fact(0, 0);
        x.lean(0);
        x.fact(0, 0);
        for (int i = 0; i < 4; i++) due.is("check", x.check(i), 1);
        x.drop(2);
        due.is("a dropped one stays checked", x.of(2, 1), 1);
        due.is("by itself and by others, 4 was not checked", x.change(3, 0), 3);
        for (int i = 0; i < 5; i++) due.is("checked " + i, x.of(i, 1), i == 3 ? 1 : 0);
        due.is("a second time none is left", x.change(3, 0), 0);
        due.is("another thing", x.change(4, 7), 1);
        due.is("checked 3", x.of(3, 1), 0);
        due.is("dropped stays", x.of(2, 2), 1);
    }

    private static void thing() {
        FactLog x = new FactLog();
        x.change(2, 5);
        due.is("thing(2, 0)", x.thing(2, 0), 5);
        due.is("thing(2, 1)", x.thing(2, 1), 1);
        for (int what : new int[] {-1, 2, MIN, MAX}) due.is("what", x.thing(2, what), FactLog.BAD);
        for (int thing : NO_THINGS) due.is("thing", x.thing(thing, 0), FactLog.BAD);
    }

    private static void rest() {
        FactLog x = new FactLog();
        for (int thing : NO_THINGS) due.is("rest(" + thing + ")", x.rest(thing), FactLog.BAD);
        due.is("first", x.rest(15), 1);
        due.is("again", x.rest(15), 1);
        due.is("second", x.rest(0), 2);
        due.is("third", x.rest(7), 3);
        due.is("fourth", x.rest(8), 4);
        due.is("again, with four", x.rest(0), 4);
        due.is("fifth", x.rest(1), FactLog.FULL);
        due.is("BAD goes first", x.rest(16), FactLog.BAD);
        x.change(7, 70);
        x.fact(0, 0);
        int[] order = {15, 0, 7, 8};
        for (int i = 0; i < 4; i++) due.is("in the order told", x.of(0, 10 + i), order[i]);
        due.is("the digest of when the fact came", x.of(0, 22), 70);
        due.is("the changes of when the fact came", x.of(0, 32), 1);
        due.is("anew", x.rest(15), 1);
    }

    private static void lean() {
        FactLog x = new FactLog();
        due.is("no fact", x.lean(0), FactLog.BAD);
        for (int i = 0; i < 5; i++) x.fact(0, i);
        for (int fact : new int[] {-1, 5, 60, MIN, MAX}) due.is("lean", x.lean(fact), FactLog.BAD);
        due.is("first", x.lean(4), 1);
        due.is("again", x.lean(4), 1);
        due.is("second", x.lean(0), 2);
        due.is("third", x.lean(2), 3);
        due.is("again, with three", x.lean(4), 3);
        due.is("fourth", x.lean(1), FactLog.FULL);
        due.is("BAD goes first", x.lean(5), FactLog.BAD);
        x.fact(0, 0);
        due.is("count", x.of(5, 5), 3);
        due.is("first", x.of(5, 40), 4);
        due.is("second", x.of(5, 41), 0);
        due.is("third", x.of(5, 42), 2);
        due.is("anew, on the new one", x.lean(5), 1);
        x.drop(0);
        due.is("on a dropped one", x.lean(0), 2);
    }

    private static void fact() {
        FactLog x = new FactLog();
        x.rest(1);
        for (int kind : new int[] {-1, 4, MIN, MAX}) due.is("fact", x.fact(kind, 0), FactLog.BAD);
        due.is("what was told stays told", x.rest(2), 2);
        for (int kind = 0; kind < 4; kind++) due.is("number", x.fact(kind, 9), kind);
        for (int kind = 0; kind < 4; kind++) due.is("kind", x.of(kind, 0), kind);
        due.is("the first has both", x.of(0, 4), 2);
        due.is("the second has none", x.of(1, 4), 0);
        due.is("told(0)", x.told(0), 4);
        due.is("not checked", x.of(0, 1), 0);
        due.is("not dropped", x.of(0, 2), 0);
    }

    private static void factsAreFull() {
        FactLog x = new FactLog();
        for (int i = 0; i < 60; i++) due.is("number", x.fact(0, i), i);
        x.rest(3);
        x.lean(59);
        due.is("the 61st", x.fact(0, 0), FactLog.FULL);
        due.is("BAD goes first", x.fact(4, 0), FactLog.BAD);
        due.is("all stays told", x.rest(4), 2);
        due.is("all stays told", x.lean(58), 2);
        due.is("told(0)", x.told(0), 60);
        due.is("usable(59)", x.usable(59), 1);
        due.is("change", x.change(3, 1), 0);
        due.is("check(59)", x.check(59), 1);
    }

    private static void checkPlain() {
        FactLog x = new FactLog();
        for (int kind : new int[] {0, 2, 3}) {
            x.rest(1);
            x.fact(kind, 5);
        }
        for (int i = 0; i < 3; i++) {
            due.is("fresh holds", x.check(i), 1);
            due.is("checked", x.of(i, 1), 1);
            due.is("checked again", x.check(i), 1);
        }
        for (int i = 0; i < 3; i++) x.change(1, i + 1);
        for (int i = 0; i < 3; i++) {
            due.is("not fresh", x.check(i), 0);
            due.is("dropped", x.of(i, 2), 1);
            due.is("not checked", x.of(i, 1), 0);
            due.is("dropped already", x.check(i), FactLog.NO);
        }
    }

    private static void checkProof() {
        FactLog x = new FactLog();
        x.fact(0, Long.MAX_VALUE);
        x.fact(0, 3);
        x.rest(2);
        x.lean(0);
        x.lean(1);
        x.fact(1, Long.MIN_VALUE + 2);
        due.is("runs over", x.check(2), 1);
        due.is("unchecked", x.change(2, 1), 1);
        due.is("not fresh, not checked", x.usable(2), 0);
        due.is("a proof need not be fresh", x.check(2), 1);
        due.is("checked makes it usable", x.usable(2), 1);
        x.fact(1, 0);
        due.is("a proof from nothing", x.check(3), 1);
        x.lean(1);
        x.fact(1, 4);
        due.is("wrong", x.check(4), 0);
        due.is("dropped", x.of(4, 2), 1);
        x.lean(1);
        x.fact(0, 4);
        due.is("no proof, no sum", x.check(5), 1);
        x.lean(5);
        x.fact(1, 7);
        due.is("values of its own facts alone", x.check(6), 0);
    }

    private static void checkRefused() {
        FactLog x = new FactLog();
        for (int fact : new int[] {0, -1, 60, MIN, MAX}) due.is("check", x.check(fact), FactLog.BAD);
        x.rest(1);
        x.fact(0, 0);
        x.lean(0);
        x.fact(0, 0);
        x.lean(1);
        x.fact(0, 0);
        x.change(1, 1);
        due.is("ground of its ground is not usable", x.check(2), FactLog.NO);
        due.is("it is not dropped by that", x.of(2, 2), 0);
        x.change(1, 0);
        due.is("now it is", x.check(2), 1);
        x.drop(1);
        due.is("ground is dropped", x.check(2), FactLog.NO);
        due.is("it stays checked", x.of(2, 1), 1);
    }

    private static void drop() {
        FactLog x = new FactLog();
        for (int fact : new int[] {0, -1, MIN, MAX}) due.is("drop", x.drop(fact), FactLog.BAD);
        x.fact(0, 0);
        x.fact(0, 0);
        due.is("drop(0)", x.drop(0), 1);
        due.is("again", x.drop(0), FactLog.NO);
        due.is("dropped", x.of(0, 2), 1);
        due.is("the other is not", x.of(1, 2), 0);
    }

    private static void usable() {
        FactLog x = new FactLog();
        for (int fact : new int[] {0, -1, MIN, MAX}) due.is("usable", x.usable(fact), FactLog.BAD);
        x.rest(9);
        x.fact(0, 0);
        x.lean(0);
        x.fact(0, 0);
        x.lean(1);
        x.fact(0, 0);
        due.is("fresh", x.usable(2), 1);
        x.drop(0);
        due.is("dropped", x.usable(0), 0);
        due.is("rests on it", x.usable(1), 0);
        due.is("rests on one that does", x.usable(2), 0);
        due.is("fresh itself", x.of(2, 3), 1);
        x.rest(9);
        x.fact(1, 0);
        x.change(9, 1);
        due.is("not fresh", x.usable(3), 0);
        x.check(3);
        due.is("not fresh, but checked", x.usable(3), 1);
        due.is("not fresh all the same", x.of(3, 3), 0);
        x.drop(3);
        due.is("checked, but dropped", x.usable(3), 0);
    }

    private static void freshByKinds() {
        FactLog x = new FactLog();
        for (int kind = 0; kind < 4; kind++) {
            x.rest(1);
            x.rest(2);
            x.fact(kind, 0);
        }
        fresh(x, "at first", 1, 1, 1, 1);
        x.change(2, 0);
        fresh(x, "one change, digest like", 1, 1, 1, 0);
        x.change(2, 8);
        fresh(x, "two changes", 0, 0, 1, 0);
        x.change(2, 9);
        fresh(x, "three changes", 0, 0, 0, 0);
        x.change(2, 0);
        fresh(x, "four changes, digest like", 1, 1, 1, 0);
        x.change(1, 5);
        fresh(x, "each thing by itself", 0, 0, 1, 0);
        FactLog y = new FactLog();
        y.fact(3, 0);
        y.change(0, 1);
        due.is("no things: fresh", y.of(0, 3), 1);
        freshAsParcelsTell();
    }

    /** A parcel may tell of digests and changes that never were: the count less the one then may be below 0. */
    private static void freshAsParcelsTell() {
        FactLog x = new FactLog();
        for (int then : new int[] {1, 3, MIN, MAX}) {
            due.is("TEST, changes then " + then, freshAsTold(x, 2, 5, then), 0);
            due.is("TEST with its digest", freshAsTold(x, 2, 0, then), 1);
            due.is("SILENCE, changes then " + then, freshAsTold(x, 3, 0, then), 0);
        }
        due.is("TEST, another digest and no changes", freshAsTold(x, 2, 5, 0), 1);
        due.is("TEST, changes then -2", freshAsTold(x, 2, 5, -2), 1);
        due.is("TEST, changes then -3", freshAsTold(x, 2, 5, -3), 0);
        due.is("SILENCE, another digest and no changes", freshAsTold(x, 3, 5, 0), 0);
    }

    private static int freshAsTold(FactLog x, int kind, int digest, int changes) {
        int[] front = Sums.join(new int[] {1, kind, 0, 0, 0, 0, 0, 0, 0, 0, 1, 6}, Sums.bytes(digest, 4),
            Sums.bytes(changes, 4), new int[] {0});
        Sums.layOut(x, Sums.join(front, new int[] {Sums.ofParcel(front)}));
        due.is("take()", x.take(), 1);
        return x.of(x.told(0) - 1, 3);
    }

    private static void fresh(FactLog x, String when, int... want) {
        for (int i = 0; i < want.length; i++) due.is("kind " + i + " fresh, " + when, x.of(i, 3), want[i]);
    }

    private static void of() {
        FactLog x = new FactLog();
        due.is("no fact", x.of(0, 0), FactLog.BAD);
        x.fact(0, 0);
        x.change(6, -4);
        x.change(6, -5);
        x.rest(6);
        x.rest(5);
        x.lean(0);
        x.fact(3, 0);
        due.is("kind", x.of(1, 0), 3);
        due.is("checked", x.of(1, 1), 0);
        due.is("dropped", x.of(1, 2), 0);
        due.is("fresh", x.of(1, 3), 1);
        due.is("things", x.of(1, 4), 2);
        due.is("facts", x.of(1, 5), 1);
        due.is("row", x.of(1, 6), 0);
        due.is("thing 0", x.of(1, 10), 6);
        due.is("thing 1", x.of(1, 11), 5);
        due.is("digest 0", x.of(1, 20), -5);
        due.is("digest 1", x.of(1, 21), 0);
        due.is("changes 0", x.of(1, 30), 2);
        due.is("changes 1", x.of(1, 31), 0);
        due.is("fact 0", x.of(1, 40), 0);
        int[] wrong = {-1, 7, 8, 9, 12, 13, 14, 19, 22, 24, 32, 34, 41, 43, 50, 60, 100, 110, MIN, MAX};
        for (int what : wrong) due.is("of(1, " + what + ")", x.of(1, what), FactLog.BAD);
        for (int fact : new int[] {-1, 2, MIN, MAX}) due.is("of", x.of(fact, 0), FactLog.BAD);
        x.save(1000);
        due.is("row", x.of(1, 6), 1);
        x.fact(0, 0);
        due.is("a new one has none", x.of(2, 6), 0);
    }

    private static void value() {
        FactLog x = new FactLog();
        due.is("no fact", x.value(0), 0);
        x.fact(0, Long.MIN_VALUE);
        x.fact(0, -1);
        due.is("value(0)", x.value(0), Long.MIN_VALUE);
        due.is("value(1)", x.value(1), -1);
        for (int fact : new int[] {-1, 2, MIN, MAX}) due.is("value", x.value(fact), 0);
        x.save(0);
        due.is("dark", x.value(1), 0);
    }
}
