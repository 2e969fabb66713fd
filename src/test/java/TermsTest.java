/** The terms' first section, sentence by sentence: things, facts, kinds, what is usable. */
public final class TermsTest {
    private static final int MIN = Integer.MIN_VALUE, MAX = Integer.MAX_VALUE;
    private static final int PLAIN = 0, PROOF = 1, TEST = 2, SILENCE = 3;
    private static final int[] NEVER_WERE = {1, 2, 3, 255, MIN, MIN + 1, MAX, MAX - 1};
    private static final Due due = new Due();

    public static void main(String[] args) {
        thingsAtFirst();
        sixtyFacts();
        longValues();
        thingsAsTheyWere();
        lesserFactsButOnce();
        checkedAndDropped();
        plainAndProof();
        plainAsParcelsTell();
        testInTwoChanges();
        testOfEachThing();
        testAsParcelsTell();
        silence();
        silenceAsParcelsTell();
        usable();
        usableThroughAll();
        allOfItsCalls();
        due.end();
    }

    private static void thingsAtFirst() {
        due.says(0, "15 have a DIGEST and CHANGES (ints, 0 at first).");
        FactLog x = new FactLog();
        for (int thing = 0; thing < 16; thing++) {
            due.is("digest of " + thing, x.thing(thing, 0), 0);
            due.is("changes of " + thing, x.thing(thing, 1), 0);
        }
        due.is("no thing below 0", x.thing(-1, 0), FactLog.BAD);
        due.is("no thing above 15", x.thing(16, 0), FactLog.BAD);
        for (int d : new int[] {MIN, MAX}) {
            x.change(15, d);
            due.is("any int", x.thing(15, 0), d);
        }
    }

    private static void sixtyFacts() {
        due.says(0, "FACTS, 60 at most, numbered from 0 as they come:");
        FactLog x = new FactLog();
        for (int i = 0; i < 60; i++) due.is("its number", x.fact(i % 4, 1000 + i), i);
        for (int i = 0; i < 60; i++) due.is("its value", x.value(i), 1000 + i);
        due.is("a 61st", x.fact(0, 0), FactLog.FULL);
        due.is("how many", x.told(0), 60);
        x.drop(0);
        due.is("a dropped one makes no room", x.fact(0, 0), FactLog.FULL);
        x.pack(1, true);
        due.is("nor by a parcel", x.take(), FactLog.FULL);
        x.save(5000);
        due.is("nor by saving", x.fact(0, 0), FactLog.FULL);
        due.is("opened again", x.open(), 60);
        due.is("nor by opening", x.fact(0, 0), FactLog.FULL);
    }

    private static void longValues() {
        due.says(0, "a KIND, a VALUE (a long),");
        for (long value : new long[] {Long.MIN_VALUE, -1L << 32, -1, 0, 1L << 31, Long.MAX_VALUE}) {
            FactLog x = new FactLog();
            x.fact(3, value);
            due.is("value", x.value(0), value);
            x.save(100);
            x.open();
            due.is("value, saved and opened", x.value(0), value);
            x.pack(0, false);
            x.take();
            due.is("value, packed and taken", x.value(1), value);
            due.is("kind", x.of(1, 0), 3);
        }
    }

    private static void thingsAsTheyWere() {
        due.says(0, "up to 4 THINGS, each with the DIGEST and CHANGES that it had then,");
        FactLog x = new FactLog();
        x.fact(0, 0);
        due.is("none", x.of(0, 4), 0);
        x.change(3, 30);
        for (int i = 0; i < 4; i++) due.is("rest", x.rest(3 + i), i + 1);
        due.is("a fifth", x.rest(9), FactLog.FULL);
        x.change(3, 31);
        x.change(6, MIN);
        x.fact(0, 0);
        x.change(3, 32);
        x.change(6, 5);
        due.is("four", x.of(1, 4), 4);
        int[] digests = {31, 0, 0, MIN};
        int[] changes = {2, 0, 0, 1};
        for (int i = 0; i < 4; i++) {
            due.is("digest when the fact came", x.of(1, 20 + i), digests[i]);
            due.is("changes when the fact came", x.of(1, 30 + i), changes[i]);
        }
        x.rest(3);
        x.fact(0, 0);
        due.is("a later fact has later ones", x.of(2, 20), 32);
        due.is("a later fact has later ones", x.of(2, 30), 3);
    }

    private static void lesserFactsButOnce() {
        due.says(0, "up to 3 FACTS with lesser numbers (each but once).");
        FactLog x = new FactLog();
        due.is("not on itself", x.lean(0), FactLog.BAD);
        for (int i = 0; i < 4; i++) x.fact(0, 0);
        due.is("none", x.of(3, 5), 0);
        due.is("not on itself", x.lean(4), FactLog.BAD);
        due.is("on the one before", x.lean(3), 1);
        due.is("but once", x.lean(3), 1);
        due.is("on the first", x.lean(0), 2);
        due.is("but once", x.lean(0), 2);
        due.is("a third", x.lean(1), 3);
        due.is("a fourth", x.lean(2), FactLog.FULL);
        x.fact(0, 0);
        due.is("three", x.of(4, 5), 3);
        due.is("each but once", x.of(4, 40) + 10 * x.of(4, 41) + 100 * x.of(4, 42), 103);
    }

    private static void checkedAndDropped() {
        due.says(0, "A FACT may be CHECKED, DROPPED.");
        for (int way = 0; way < 4; way++) {
            FactLog x = new FactLog();
            x.fact(0, 0);
            if ((way & 1) != 0) x.check(0);
            if ((way & 2) != 0) x.drop(0);
            due.is("checked", x.of(0, 1), way & 1);
            due.is("dropped", x.of(0, 2), way >> 1);
        }
    }

    /** A new object with a fact of this kind on things 1 to 4. */
    private static FactLog onFour(int kind) {
        FactLog x = new FactLog();
        for (int thing = 1; thing <= 4; thing++) x.rest(thing);
        x.fact(kind, 0);
        return x;
    }

    private static void plainAndProof() {
        due.says(0, "KINDS and when one is FRESH: 0 PLAIN, 1 PROOF: all its THINGS have the DIGEST that they had.");
        for (int kind : new int[] {PLAIN, PROOF}) {
            for (int thing = 1; thing <= 4; thing++) {
                FactLog x = onFour(kind);
                due.is("fresh", x.of(0, 3), 1);
                x.change(thing, 0);
                due.is("changed to the like", x.of(0, 3), 1);
                x.change(thing, MIN);
                due.is("one of all is another", x.of(0, 3), 0);
                x.change(thing, 1);
                x.change(thing, 0);
                due.is("as it was, after four changes", x.of(0, 3), 1);
                x.change(5, 1);
                due.is("none of its things", x.of(0, 3), 1);
            }
            FactLog x = new FactLog();
            x.fact(kind, 5);
            for (int thing = 0; thing < 16; thing++) x.change(thing, 1);
            due.is("without things", x.of(0, 3), 1);
            x.lean(0);
            x.fact(kind, 6);
            x.drop(0);
            due.is("whatever its facts are", x.of(1, 3), 1);
            x.drop(1);
            due.is("dropped or not", x.of(1, 3), 1);
        }
    }

    private static void testInTwoChanges() {
        due.says(0, "2 TEST: each of its THINGS has the DIGEST that it had, or had at most 2 CHANGES since (the count "
            + "less the one then, from 0 to 2).");
        for (int before = 0; before < 4; before++) {
            FactLog x = new FactLog();
            for (int i = 0; i < before; i++) x.change(2, i);
            x.change(2, 40);
            x.rest(2);
            x.fact(TEST, 0);
            due.is("no change", x.of(0, 3), 1);
            x.change(2, 41);
            due.is("one", x.of(0, 3), 1);
            x.change(2, 42);
            due.is("two", x.of(0, 3), 1);
            x.change(2, 43);
            due.is("three", x.of(0, 3), 0);
            x.change(2, 40);
            due.is("four, with the digest", x.of(0, 3), 1);
            x.change(2, 44);
            due.is("five", x.of(0, 3), 0);
        }
        FactLog x = new FactLog();
        x.fact(TEST, 0);
        for (int i = 0; i < 3; i++) for (int thing = 0; thing < 16; thing++) x.change(thing, i + 1);
        due.is("without things", x.of(0, 3), 1);
    }

    private static void testOfEachThing() {
        for (int thing = 1; thing <= 4; thing++) {
            FactLog x = onFour(TEST);
            for (int other = 1; other <= 4; other++) {
                x.change(other, 1);
                x.change(other, 2);
            }
            due.is("two changes each", x.of(0, 3), 1);
            x.change(thing, 3);
            due.is("three of one", x.of(0, 3), 0);
            x.change(thing, 0);
            due.is("that one with its digest, the others by their changes", x.of(0, 3), 1);
        }
    }

    private static void silence() {
        due.says(0, "3 SILENCE: PLAIN, and none of them had a CHANGE since.");
        for (int thing = 1; thing <= 4; thing++) {
            FactLog x = onFour(SILENCE);
            due.is("no change", x.of(0, 3), 1);
            x.change(5, 1);
            due.is("none of its things", x.of(0, 3), 1);
            x.change(thing, 0);
            due.is("a change to the like digest", x.of(0, 3), 0);
            x.change(thing, 1);
            x.change(thing, 0);
            due.is("for ever", x.of(0, 3), 0);
        }
        FactLog x = new FactLog();
        x.change(1, 7);
        x.change(1, 8);
        x.rest(1);
        x.fact(SILENCE, 0);
        due.is("changes ahead of it are none since", x.of(0, 3), 1);
        x.fact(SILENCE, 0);
        x.change(1, 9);
        due.is("without things", x.of(1, 3), 1);
    }

    /** A parcel may tell of digests and changes that never were: the count less the one then may be below 0. */
    private static void testAsParcelsTell() {
        for (int then : NEVER_WERE) {
            due.is("changes then " + then, freshAsTold(TEST, 5, then), 0);
            due.is("with its digest", freshAsTold(TEST, 0, then), 1);
        }
        for (int then : new int[] {0, -1, -2}) due.is("changes then " + then, freshAsTold(TEST, 5, then), 1);
        for (int then : new int[] {-3, -4}) due.is("changes then " + then, freshAsTold(TEST, 5, then), 0);
    }

    private static void silenceAsParcelsTell() {
        for (int then : NEVER_WERE) due.is("changes then " + then, freshAsTold(SILENCE, 0, then), 0);
        due.is("another digest and no changes", freshAsTold(SILENCE, 5, 0), 0);
        due.is("its digest and no changes", freshAsTold(SILENCE, 0, 0), 1);
        due.is("changes then -1", freshAsTold(SILENCE, 0, -1), 0);
    }

    private static void plainAsParcelsTell() {
        for (int then : NEVER_WERE) {
            for (int kind : new int[] {PLAIN, PROOF}) {
                due.is("with its digest", freshAsTold(kind, 0, then), 1);
                due.is("another digest", freshAsTold(kind, 5, then), 0);
            }
        }
    }

    private static int freshAsTold(int kind, int digest, int changes) {
        FactLog x = new FactLog();
        Sums.layOut(x, Rows.parcel(Rows.row(kind, 0, new int[][] {{6, digest, changes}})));
        due.is("take()", x.take(), 1);
        return x.of(0, 3);
    }

    private static void usable() {
        due.says(0, "USABLE: not DROPPED, and CHECKED or FRESH, and all FACTS on which it rests are USABLE.");
        for (int way = 0; way < 16; way++) {
            boolean checked = (way & 1) != 0, fresh = (way & 2) != 0, dropped = (way & 4) != 0, ground = (way & 8) != 0;
            FactLog x = new FactLog();
            x.fact(PLAIN, 0);
            x.rest(9);
            x.lean(0);
            x.fact(PROOF, 0);
            if (!fresh) x.change(9, 1);
            if (checked) due.is("a proof that holds", x.check(1), 1);
            if (dropped) x.drop(1);
            if (!ground) x.drop(0);
            due.is("checked", x.of(1, 1), way & 1);
            due.is("fresh", x.of(1, 3), way >> 1 & 1);
            boolean usable = !dropped && (checked || fresh) && ground;
            due.is("checked " + checked + ", fresh " + fresh + ", dropped " + dropped + ", ground " + ground, x.usable(1),
                usable ? 1 : 0);
        }
        for (int wrong = 0; wrong < 3; wrong++) {
            FactLog x = new FactLog();
            for (int i = 0; i < 3; i++) x.fact(PLAIN, 0);
            for (int i = 0; i < 3; i++) x.lean(i);
            x.fact(PLAIN, 0);
            due.is("on three", x.usable(3), 1);
            x.drop(wrong);
            due.is("one of three is dropped", x.usable(3), 0);
        }
    }

    private static void usableThroughAll() {
        FactLog x = new FactLog();
        for (int i = 0; i < 60; i++) {
            if (i > 0) x.lean(i - 1);
            if (i == 0) x.rest(4);
            x.fact(PROOF, 0);
        }
        for (int i = 0; i < 60; i++) due.is("each on the one before", x.usable(i), 1);
        x.change(4, 1);
        for (int i = 0; i < 60; i++) due.is("the first is stale", x.usable(i), 0);
        x.check(0);
        due.is("the first is checked", x.usable(59), 1);
        x.drop(30);
        due.is("ahead of the dropped one", x.usable(29), 1);
        due.is("the dropped one", x.usable(30), 0);
        due.is("behind it", x.usable(31), 0);
        due.is("the last", x.usable(59), 0);
        due.is("which may not be checked", x.check(59), FactLog.NO);
        due.is("nor that one", x.check(31), FactLog.NO);
        due.is("this one may", x.check(29), 1);
    }

    private static void allOfItsCalls() {
        due.says(0, "An object is used for at most 512 calls after it has been made; what later calls answer is free.");
        FactLog x = new FactLog();
        x.rest(0);
        x.fact(TEST, 0);
        for (int i = 1; i <= 508; i++) x.change(0, 1);
        due.is("the 511th call", x.thing(0, 1), 508);
        due.is("the 512th call", x.usable(0), 0);
    }
}
