import java.util.LinkedHashMap;
import java.util.Map;

/**
 * All that can be seen of an object. To look is to call, and an object is good for 512 calls: so the object is made
 * anew, by the same calls, for every part that is looked at.
 */
final class State {
    interface Scene {
        FactLog made();
    }

    private static final int DISK_BYTES = 3532, LOOKS = 200;

    private final Map<String, Long> seen = new LinkedHashMap<>();

    private State() {
    }

    static State of(Scene scene) {
        State state = new State();
        state.lookAtDisk("now", scene);
        if (scene.made().told(5) == 1) state.lookAtRest(() -> opened(scene));
        else state.lookAtRest(scene);
        return state;
    }

    static int[] diskOf(Scene scene) {
        int[] all = new int[DISK_BYTES];
        FactLog x = scene.made();
        for (int place = 0; place < DISK_BYTES; place++) {
            if (place % LOOKS == 0) x = scene.made();
            all[place] = x.disk(place);
        }
        return all;
    }

    static FactLog opened(Scene scene) {
        FactLog x = scene.made();
        x.open();
        return x;
    }

    private static FactLog saved(Scene scene) {
        FactLog x = scene.made();
        x.save(5000);
        return x;
    }

    /** Asks that this state be like the one that is due. */
    void mustBe(Due due, String when, State want) {
        due.is(when + ": how much there is to see", seen.size(), want.seen.size());
        for (Map.Entry<String, Long> one : want.seen.entrySet()) {
            due.is(when + ": " + one.getKey(), seen.getOrDefault(one.getKey(), Long.MIN_VALUE + 7), one.getValue());
        }
    }

    private void put(String what, long answer) {
        seen.put(what, answer);
    }

    /** What a later saving writes shows what is kept beside the disk. */
    private void lookAtRest(Scene lit) {
        lookAtThings(lit.made());
        lookAtFacts("facts now", lit);
        lookAtNext(lit);
        lookAtItems("OUT", lit.made());
        FactLog x = lit.made();
        put("swap", x.swap());
        lookAtItems("SHELF", x);
        put("save", lit.made().save(5000));
        lookAtDisk("when saved", () -> saved(lit));
        lookAtFacts("facts when saved and opened", () -> opened(() -> saved(lit)));
    }

    private void lookAtDisk(String when, Scene shown) {
        int[] all = diskOf(shown);
        for (int place = 0; place < DISK_BYTES; place++) put("disk " + when + " at " + place, all[place]);
        FactLog x = shown.made();
        for (int what = 0; what < 8; what++) put("told " + when + " " + what, x.told(what));
    }

    private void lookAtThings(FactLog x) {
        for (int thing = 0; thing < 16; thing++) {
            put("digest " + thing, x.thing(thing, 0));
            put("changes " + thing, x.thing(thing, 1));
        }
    }

    private void lookAtFacts(String when, Scene shown) {
        int count = shown.made().told(0);
        for (int fact = 0; fact <= count; fact++) {
            FactLog x = shown.made();
            put(when + ": value of " + fact, x.value(fact));
            put(when + ": usable " + fact, x.usable(fact));
            for (int what = 0; what < 44; what++) put(when + ": of " + fact + ", " + what, x.of(fact, what));
        }
    }

    /** What the next fact rests on: by a further one, and by the fact itself, where there is room for it. */
    private void lookAtNext(Scene shown) {
        int count = shown.made().told(0);
        for (int thing = 0; thing < 16; thing++) put("rest " + thing, shown.made().rest(thing));
        for (int fact = 0; fact < count; fact++) put("lean " + fact, shown.made().lean(fact));
        FactLog x = shown.made();
        put("fact", x.fact(2, 77));
        for (int what = 0; what < 44; what++) put("of the next one, " + what, x.of(count, what));
    }

    private void lookAtItems(String where, FactLog x) {
        int count = x.item(-1);
        put("how many in " + where, count);
        for (int i = 0; i < count && i < LOOKS; i++) put(where + " at " + i, x.item(i));
    }
}
