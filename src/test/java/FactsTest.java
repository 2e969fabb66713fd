/** Promises 1 to 11, sentence by sentence: things and facts. */
public final class FactsTest {
    private static final int MIN = Integer.MIN_VALUE, MAX = Integer.MAX_VALUE;
    private static final int[] NO_SUCH_THING = {-1, 16, 17, 255, 256, MIN, MAX};
    private static final Due due = new Due();

    public static void main(String[] args) {
        newObject();
        changeBecomes();
        changeUnchecks();
        changeUnchecksByOthers();
        changeUnchecksAll();
        changeIsBad();
        thing();
        thingIsBad();
        rest();
        restIsRefused();
        lean();
        leanIsRefused();
        fact();
        factIsBad();
        factsAreFull();
        checkProof();
        checkOthers();
        checkAnswers();
        checkIsRefused();
        drop();
        dropIsRefused();
        usable();
        usableIsBad();
        of();
        ofAllThatItCanHave();
        ofIsBad();
        value();
        noValue();
        due.end();
    }

    private static void newObject() {
        due.says(1, "No FACTS; the DISK is all 0.");
        int[] disk = State.diskOf(FactLog::new);
        due.is("bytes of the disk", disk.length, 3532);
        for (int place = 0; place < disk.length; place++) due.is("disk(" + place + ")", disk[place], 0);
        FactLog x = new FactLog();
        due.is("told(0)", x.told(0), 0);
        due.is("usable(0)", x.usable(0), FactLog.BAD);
        due.is("of(0, 0)", x.of(0, 0), FactLog.BAD);
        due.is("open()", x.open(), 0);
        due.is("the first one's number", x.fact(0, 0), 0);
    }

    private static void changeBecomes() {
        due.says(2, "A THING's DIGEST becomes d (like or not), CHANGES 1 more;");
        FactLog x = new FactLog();
        int[] digests = {0, -9, -9, 0, 0, MAX, MIN, MIN, -1};
        for (int thing : new int[] {0, 15}) {
            for (int i = 0; i < digests.length; i++) {
                due.is("change", x.change(thing, digests[i]), 0);
                due.is("digest", x.thing(thing, 0), digests[i]);
                due.is("changes", x.thing(thing, 1), i + 1);
            }
        }
        for (int thing = 1; thing < 15; thing++) {
            due.is("others' digests stay", x.thing(thing, 0), 0);
            due.is("others' changes stay", x.thing(thing, 1), 0);
        }
    }

    private static void checked(FactLog x, int... want) {
        for (int i = 0; i < want.length; i++) due.is("checked " + i, x.of(i, 1), want[i]);
    }

    private static void changeUnchecks() {
        due.says(2, "CHECKED FACTS that rest on it, by themselves or by others, are CHECKED no more: how many were.");
        FactLog x = new FactLog();
        x.rest(3);
        x.fact(0, 0);
        x.lean(0);
        x.fact(0, 0);
        x.lean(1);
        x.fact(0, 0);
        x.rest(4);
        x.fact(0, 0);
        x.lean(0);
        x.fact(0, 0);
        for (int i = 0; i < 4; i++) due.is("check", x.check(i), 1);
        x.drop(2);
        due.is("a dropped one stays checked", x.of(2, 1), 1);
        due.is("to the like digest; 4 was not checked", x.change(3, 0), 3);
        checked(x, 0, 0, 0, 1, 0);
        due.is("a second time none is left", x.change(3, 0), 0);
        due.is("another thing", x.change(4, 7), 1);
        checked(x, 0, 0, 0, 0, 0);
        due.is("dropped stays", x.of(2, 2), 1);
        due.is("no fact on it", x.change(5, 7), 0);
    }

    private static void changeUnchecksByOthers() {
        FactLog x = new FactLog();
        x.fact(0, 0);
        x.rest(2);
        x.fact(1, 0);
        x.lean(0);
        x.fact(2, 0);
        for (int base : new int[] {0, 2, 1}) x.lean(base);
        x.fact(3, 0);
        x.lean(0);
        x.fact(0, 0);
        for (int thing : new int[] {7, 8, 9, 2}) x.rest(thing);
        x.fact(0, 0);
        x.lean(1);
        x.fact(0, 0);
        x.rest(2);
        x.lean(1);
        x.lean(5);
        x.fact(0, 0);
        x.lean(4);
        x.fact(0, 0);
        for (int i = 0; i < 9; i++) due.is("check " + i, x.check(i), 1);
        due.is("each once, by the last of its things and facts, too", x.change(2, 1), 5);
        checked(x, 1, 0, 1, 0, 1, 0, 0, 0, 1);
        due.is("by the first of its things", x.change(7, 1), 0);
        due.is("a proof is checked again, stale as it is", x.check(1), 1);
        due.is("by the proof alone", x.change(2, 2), 1);
        due.is("those on nothing stay", x.of(8, 1), 1);
    }

    private static void changeUnchecksAll() {
        FactLog x = new FactLog();
        x.rest(15);
        for (int i = 0; i < 60; i++) {
            x.fact(0, i);
            x.lean(i);
        }
        for (int i = 0; i < 60; i++) due.is("check " + i, x.check(i), 1);
        due.is("another thing", x.change(14, 0), 0);
        due.is("60 facts, each on the one before", x.change(15, 0), 60);
        for (int i = 0; i < 60; i++) due.is("checked " + i, x.of(i, 1), 0);
    }

    private static void changeIsBad() {
        due.says(2, "BAD.");
        FactLog x = new FactLog();
        for (int thing : NO_SUCH_THING) due.is("change(" + thing + ")", x.change(thing, 1), FactLog.BAD);
        for (int thing = 0; thing < 16; thing++) due.is("changes", x.thing(thing, 1), 0);
    }

    private static void thing() {
        due.says(3, "Of a THING: 0 DIGEST, 1 CHANGES.");
        FactLog x = new FactLog();
        x.change(2, 5);
        x.change(2, 6);
        due.is("thing(2, 0)", x.thing(2, 0), 6);
        due.is("thing(2, 1)", x.thing(2, 1), 2);
        due.is("to ask changes nothing", x.thing(2, 1), 2);
        for (int thing : new int[] {0, 15}) {
            due.is("digest at first", x.thing(thing, 0), 0);
            due.is("changes at first", x.thing(thing, 1), 0);
        }
    }

    private static void thingIsBad() {
        due.says(3, "BAD (which it may be).");
        FactLog x = new FactLog();
        x.change(2, 5);
        for (int what : new int[] {-1, 2, 10, MIN, MAX}) due.is("what " + what, x.thing(2, what), FactLog.BAD);
        for (int thing : NO_SUCH_THING) {
            due.is("thing(" + thing + ", 0)", x.thing(thing, 0), FactLog.BAD);
            due.is("thing(" + thing + ", 1)", x.thing(thing, 1), FactLog.BAD);
        }
        x.change(2, FactLog.BAD);
        due.is("a digest that is BAD", x.thing(2, 0), FactLog.BAD);
        x.change(2, FactLog.DARK);
        due.is("a digest that is DARK", x.thing(2, 0), FactLog.DARK);
    }

    private static void rest() {
        due.says(4, "The next FACT rests on a THING, too: how many it has then (as many as before, if it does already).");
        FactLog x = new FactLog();
        int[] order = {15, 0, 7, 8};
        for (int i = 0; i < 4; i++) {
            due.is("one more", x.rest(order[i]), i + 1);
            for (int k = 0; k <= i; k++) due.is("again", x.rest(order[k]), i + 1);
        }
        x.change(7, 70);
        x.fact(0, 0);
        for (int i = 0; i < 4; i++) due.is("in the order told", x.of(0, 10 + i), order[i]);
        due.is("how many", x.of(0, 4), 4);
        due.is("the digest of when the fact came", x.of(0, 22), 70);
        due.is("the changes of when the fact came", x.of(0, 32), 1);
        due.is("the next one has none", x.rest(15), 1);
    }

    private static void restIsRefused() {
        due.says(4, "BAD; FULL: 4.");
        FactLog x = new FactLog();
        for (int thing : NO_SUCH_THING) due.is("rest(" + thing + ")", x.rest(thing), FactLog.BAD);
        for (int thing = 0; thing < 4; thing++) due.is("rest", x.rest(thing), thing + 1);
        for (int thing = 4; thing < 16; thing++) due.is("a fifth", x.rest(thing), FactLog.FULL);
        for (int thing : NO_SUCH_THING) due.is("BAD goes first", x.rest(thing), FactLog.BAD);
        x.fact(0, 0);
        due.is("it has four", x.of(0, 4), 4);
        due.is("room again", x.rest(9), 1);
    }

    private static void lean() {
        due.says(5, "The next FACT rests on a FACT, too: likewise.");
        FactLog x = new FactLog();
        for (int i = 0; i < 5; i++) x.fact(0, i);
        int[] order = {4, 0, 2};
        for (int i = 0; i < 3; i++) {
            due.is("one more", x.lean(order[i]), i + 1);
            for (int k = 0; k <= i; k++) due.is("again", x.lean(order[k]), i + 1);
        }
        x.fact(0, 0);
        due.is("how many", x.of(5, 5), 3);
        for (int i = 0; i < 3; i++) due.is("in the order told", x.of(5, 40 + i), order[i]);
        due.is("the next one, on that one", x.lean(5), 1);
        x.drop(0);
        due.is("on a dropped one", x.lean(0), 2);
        due.is("things are counted by themselves", x.rest(3), 1);
    }

    private static void leanIsRefused() {
        due.says(5, "BAD; FULL: 3.");
        FactLog x = new FactLog();
        due.is("no fact yet", x.lean(0), FactLog.BAD);
        for (int i = 0; i < 5; i++) x.fact(0, i);
        int[] noFacts = {-1, 5, 59, 60, MIN, MAX};
        for (int fact : noFacts) due.is("lean(" + fact + ")", x.lean(fact), FactLog.BAD);
        for (int i = 0; i < 3; i++) due.is("lean", x.lean(i), i + 1);
        for (int i = 3; i < 5; i++) due.is("a fourth", x.lean(i), FactLog.FULL);
        for (int fact : noFacts) due.is("BAD goes first", x.lean(fact), FactLog.BAD);
        x.fact(0, 0);
        due.is("it has three", x.of(5, 5), 3);
        due.is("room again", x.lean(4), 1);
    }

    private static void fact() {
        due.says(6, "A FACT with what was told by rest(), lean() since the one before (in that order; nothing is told "
            + "then): its number.");
        FactLog x = new FactLog();
        for (int kind = 0; kind < 4; kind++) due.is("number", x.fact(kind, 9), kind);
        for (int kind = 0; kind < 4; kind++) due.is("kind", x.of(kind, 0), kind);
        x.lean(2);
        x.rest(9);
        x.lean(1);
        x.rest(3);
        due.is("number", x.fact(0, 0), 4);
        due.is("told(0)", x.told(0), 5);
        due.is("first thing", x.of(4, 10), 9);
        due.is("second thing", x.of(4, 11), 3);
        due.is("first fact", x.of(4, 40), 2);
        due.is("second fact", x.of(4, 41), 1);
        due.is("not checked", x.of(4, 1), 0);
        due.is("not dropped", x.of(4, 2), 0);
        due.is("number", x.fact(0, 0), 5);
        due.is("no things are told then", x.of(5, 4), 0);
        due.is("no facts are told then", x.of(5, 5), 0);
    }

    private static void factIsBad() {
        due.says(6, "BAD: KIND;");
        FactLog x = new FactLog();
        x.fact(0, 0);
        x.rest(1);
        x.lean(0);
        for (int kind : new int[] {-1, 4, 255, 256, MIN, MAX}) due.is("fact", x.fact(kind, 0), FactLog.BAD);
        due.is("no fact came", x.told(0), 1);
        due.is("what was told stays told", x.rest(2), 2);
        due.is("the least kind", x.fact(0, 0), 1);
        due.is("things", x.of(1, 4), 2);
        due.is("facts", x.of(1, 5), 1);
        due.is("the greatest kind", x.fact(3, 0), 2);
    }

    private static void factsAreFull() {
        due.says(6, "FULL: 60 (all stays told).");
        FactLog x = new FactLog();
        for (int i = 0; i < 59; i++) x.fact(0, i);
        due.is("the 60th", x.fact(0, 59), 59);
        for (int thing : new int[] {3, 5}) x.rest(thing);
        for (int fact : new int[] {59, 0}) x.lean(fact);
        due.is("the 61st", x.fact(0, 0), FactLog.FULL);
        due.is("BAD goes first", x.fact(4, 0), FactLog.BAD);
        due.is("BAD goes first", x.fact(-1, 0), FactLog.BAD);
        due.is("told(0)", x.told(0), 60);
        for (int thing : new int[] {3, 5}) due.is("the things stay told", x.rest(thing), 2);
        due.is("one more thing", x.rest(4), 3);
        for (int fact : new int[] {59, 0}) due.is("the facts stay told", x.lean(fact), 2);
        due.is("one more fact", x.lean(58), 3);
        due.is("the last one's value", x.value(59), 59);
        due.is("no 61st", x.usable(60), FactLog.BAD);
        due.is("still full", x.fact(0, 0), FactLog.FULL);
    }

    /** A proof of this value from facts of these values. */
    private static int proof(long value, long... grounds) {
        FactLog x = new FactLog();
        for (int i = 0; i < grounds.length; i++) {
            x.fact(0, grounds[i]);
        }
        for (int i = 0; i < grounds.length; i++) x.lean(i);
        x.fact(1, value);
        return x.check(grounds.length);
    }

    private static void checkProof() {
        due.says(7, "A FACT is checked: a PROOF holds if its VALUE is the sum of the VALUES of its FACTS (running over),");
        due.is("no facts: 0", proof(0), 1);
        due.is("no facts: not 1", proof(1), 0);
        due.is("one", proof(5, 5), 1);
        due.is("one less", proof(4, 5), 0);
        due.is("all three", proof(7, 1, 2, 4), 1);
        due.is("two of three", proof(3, 1, 2, 4), 0);
        due.is("over the greatest", proof(Long.MIN_VALUE + 2, Long.MAX_VALUE, 3), 1);
        due.is("over the least", proof(Long.MAX_VALUE, Long.MIN_VALUE, -1), 1);
        due.is("over to 0", proof(0, Long.MIN_VALUE, Long.MIN_VALUE), 1);
        due.is("over and back", proof(Long.MAX_VALUE, Long.MAX_VALUE, 1, -1), 1);
        due.is("all 64 bits", proof(1L << 32, 0), 0);
        due.is("all 64 bits", proof(1L << 63, 0), 0);
        FactLog x = new FactLog();
        x.fact(0, 3);
        x.lean(0);
        x.fact(1, 3);
        x.lean(1);
        x.fact(1, 3);
        due.is("values of its own facts alone", x.check(2), 1);
        x.rest(2);
        x.lean(0);
        x.fact(1, 3);
        x.change(2, 1);
        due.is("not fresh", x.of(3, 3), 0);
        due.is("a proof need not be fresh", x.check(3), 1);
        x.rest(2);
        x.fact(1, 9);
        due.is("fresh, but no proof", x.check(4), 0);
    }

    private static void checkOthers() {
        due.says(7, "others if they are FRESH;");
        for (int kind : new int[] {0, 2, 3}) {
            FactLog x = new FactLog();
            x.fact(0, 1);
            x.rest(1);
            x.lean(0);
            x.fact(kind, 5);
            due.is("fresh, the value is no sum", x.check(1), 1);
            for (int i = 0; i < 3; i++) x.change(1, i + 1);
            due.is("not fresh", x.check(1), 0);
        }
        FactLog x = new FactLog();
        x.rest(1);
        x.fact(2, 0);
        x.change(1, 1);
        x.change(1, 2);
        due.is("a test with two changes", x.check(0), 1);
        x.rest(1);
        x.fact(3, 0);
        x.change(1, 2);
        due.is("a silence with a change", x.check(1), 0);
    }

    private static void checkAnswers() {
        due.says(7, "if it holds it is CHECKED: 1; else DROPPED: 0.");
        FactLog x = new FactLog();
        x.rest(1);
        x.fact(0, 0);
        due.is("check", x.check(0), 1);
        due.is("checked", x.of(0, 1), 1);
        due.is("not dropped", x.of(0, 2), 0);
        due.is("checked once more", x.check(0), 1);
        due.is("checked", x.of(0, 1), 1);
        x.change(1, 1);
        due.is("check", x.check(0), 0);
        due.is("not checked", x.of(0, 1), 0);
        due.is("dropped", x.of(0, 2), 1);
        x.fact(1, 1);
        due.is("a proof", x.check(1), 0);
        due.is("not checked", x.of(1, 1), 0);
        due.is("dropped", x.of(1, 2), 1);
    }

    private static void checkIsRefused() {
        due.says(7, "BAD; NO: it is DROPPED, or a FACT on which it rests is not USABLE.");
        FactLog x = new FactLog();
        for (int fact : new int[] {0, -1, 60, MIN, MAX}) due.is("check", x.check(fact), FactLog.BAD);
        x.rest(1);
        x.fact(0, 0);
        x.fact(0, 0);
        x.lean(1);
        x.lean(0);
        x.fact(0, 0);
        x.lean(2);
        x.fact(1, 8);
        due.is("no such fact", x.check(4), FactLog.BAD);
        x.change(1, 1);
        due.is("ground is not usable", x.check(2), FactLog.NO);
        due.is("ground of its ground is not usable", x.check(3), FactLog.NO);
        due.is("it is not dropped by that", x.of(3, 2), 0);
        x.change(1, 0);
        due.is("now it is", x.check(2), 1);
        x.drop(1);
        due.is("ground is dropped", x.check(2), FactLog.NO);
        due.is("it stays checked", x.of(2, 1), 1);
        x.drop(0);
        due.is("dropped", x.check(0), FactLog.NO);
        x.fact(1, 1);
        due.is("does not hold", x.check(4), 0);
        due.is("dropped by that", x.check(4), FactLog.NO);
    }

    private static void drop() {
        due.says(8, "A FACT is DROPPED: 1.");
        FactLog x = new FactLog();
        x.fact(0, 0);
        x.lean(0);
        x.fact(0, 0);
        x.check(0);
        due.is("drop(0)", x.drop(0), 1);
        due.is("dropped", x.of(0, 2), 1);
        due.is("checked stays", x.of(0, 1), 1);
        due.is("the one on it is not", x.of(1, 2), 0);
        due.is("drop(1)", x.drop(1), 1);
        due.is("told(0)", x.told(0), 2);
    }

    private static void dropIsRefused() {
        due.says(8, "BAD; NO: it is.");
        FactLog x = new FactLog();
        for (int fact : new int[] {0, -1, MIN, MAX}) due.is("drop", x.drop(fact), FactLog.BAD);
        x.fact(0, 0);
        x.fact(1, 7);
        due.is("no such fact", x.drop(2), FactLog.BAD);
        x.drop(0);
        due.is("it is", x.drop(0), FactLog.NO);
        x.check(1);
        due.is("it is, by check()", x.drop(1), FactLog.NO);
        due.is("it is still", x.of(0, 2), 1);
    }

    private static void usable() {
        due.says(9, "Whether a FACT is USABLE: 1, 0.");
        FactLog x = new FactLog();
        x.rest(9);
        x.fact(0, 0);
        x.lean(0);
        x.fact(0, 0);
        due.is("fresh", x.usable(0), 1);
        due.is("rests on it", x.usable(1), 1);
        x.change(9, 1);
        due.is("not fresh", x.usable(0), 0);
        due.is("rests on it", x.usable(1), 0);
        due.is("to ask does not drop", x.of(0, 2), 0);
    }

    private static void usableIsBad() {
        due.says(9, "BAD.");
        FactLog x = new FactLog();
        for (int fact : new int[] {0, -1, MIN, MAX}) due.is("usable", x.usable(fact), FactLog.BAD);
        for (int i = 0; i < 60; i++) x.fact(0, 0);
        due.is("the last one", x.usable(59), 1);
        due.is("none behind it", x.usable(60), FactLog.BAD);
    }

    private static void of() {
        due.says(10, "Of a FACT: 0 KIND, 1 CHECKED, 2 DROPPED, 3 FRESH (1, 0), 4 how many THINGS, 5 FACTS, 6 whether "
            + "it has a ROW (1, 0);");
        FactLog x = new FactLog();
        x.fact(3, 0);
        x.rest(6);
        x.rest(5);
        x.lean(0);
        x.fact(2, 0);
        int[][] first = {{3, 0, 0, 1, 0, 0, 0}, {2, 0, 0, 1, 2, 1, 0}};
        for (int f = 0; f < 2; f++) for (int i = 0; i < 7; i++) due.is("of " + f + ", " + i, x.of(f, i), first[f][i]);
        x.check(0);
        x.save(1000);
        x.fact(0, 0);
        x.drop(1);
        for (int i = 0; i < 3; i++) x.change(5, i + 1);
        int[][] then = {{3, 1, 0, 1, 0, 0, 1}, {2, 0, 1, 0, 2, 1, 1}, {0, 0, 0, 1, 0, 0, 0}};
        for (int f = 0; f < 3; f++) for (int i = 0; i < 7; i++) due.is("of " + f + ", " + i, x.of(f, i), then[f][i]);
        x.save(34);
        x.open();
        due.is("rows that were opened", x.of(1, 6), 1);
        x.fact(0, 0);
        due.is("the saving was cut", x.of(2, 6), 0);
        x.save(1000);
        due.is("a row now", x.of(2, 6), 1);
    }

    private static void ofAllThatItCanHave() {
        due.says(10, "10 and i: its i-th THING, 20 and i: that one's DIGEST then, 30 and i: its CHANGES, 40 and i: its "
            + "i-th FACT.");
        FactLog x = new FactLog();
        for (int i = 0; i < 3; i++) x.fact(0, 0);
        int[] things = {14, 0, 15, 6};
        for (int i = 0; i < 4; i++) {
            for (int k = 0; k <= i; k++) x.change(things[i], 100 + i);
            x.rest(things[i]);
        }
        int[] facts = {2, 0, 1};
        for (int fact : facts) x.lean(fact);
        x.fact(0, 0);
        for (int thing : things) x.change(thing, 7);
        for (int i = 0; i < 4; i++) {
            due.is("thing " + i, x.of(3, 10 + i), things[i]);
            due.is("digest " + i, x.of(3, 20 + i), 100 + i);
            due.is("changes " + i, x.of(3, 30 + i), i + 1);
        }
        for (int i = 0; i < 3; i++) due.is("fact " + i, x.of(3, 40 + i), facts[i]);
        due.is("no fifth thing", x.of(3, 14), FactLog.BAD);
        due.is("no fourth fact", x.of(3, 43), FactLog.BAD);
    }

    private static void ofIsBad() {
        due.says(10, "BAD (which they may be): also no such one.");
        FactLog x = new FactLog();
        due.is("no fact", x.of(0, 0), FactLog.BAD);
        x.fact(0, 0);
        x.change(6, FactLog.BAD);
        x.change(5, -5);
        x.rest(6);
        x.rest(5);
        x.lean(0);
        x.fact(3, 0);
        due.is("a digest that is BAD", x.of(1, 20), FactLog.BAD);
        due.is("a digest that is DARK", x.of(1, 21), -5);
        int[] wrong = {-1, -10, -20, -40, 7, 8, 9, 12, 13, 14, 15, 19, 22, 23, 24, 29, 32, 33, 34, 39, 41, 42, 43, 49, 50,
            51, 60, 100, 110, 266, MIN, MAX};
        for (int what : wrong) due.is("of(1, " + what + ")", x.of(1, what), FactLog.BAD);
        for (int what : new int[] {10, 20, 30, 40}) due.is("of(0, " + what + ")", x.of(0, what), FactLog.BAD);
        for (int fact : new int[] {-1, 2, 60, MIN, MAX}) due.is("of", x.of(fact, 0), FactLog.BAD);
    }

    private static void value() {
        due.says(11, "VALUE of a FACT.");
        FactLog x = new FactLog();
        long[] values = {Long.MIN_VALUE, -1, 0, 1L << 31, 1L << 32, Long.MAX_VALUE};
        for (long value : values) x.fact(0, value);
        for (int i = 0; i < values.length; i++) due.is("value(" + i + ")", x.value(i), values[i]);
        x.drop(1);
        due.is("a dropped one", x.value(1), -1);
    }

    private static void noValue() {
        due.says(11, "0: no such one (DARK, too).");
        FactLog x = new FactLog();
        due.is("no fact", x.value(0), 0);
        x.fact(0, 9);
        for (int fact : new int[] {-1, 1, 60, MIN, MAX}) due.is("value", x.value(fact), 0);
        x.save(0);
        due.is("dark", x.value(0), 0);
        due.is("dark, and no such one", x.value(1), 0);
        FactLog y = new FactLog();
        y.fact(0, 9);
        y.save(100);
        y.open();
        due.is("light again", y.value(0), 9);
    }
}
