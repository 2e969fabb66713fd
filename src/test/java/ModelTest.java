import java.util.Random;

/** Random runs, the same ones every time, on the class and on the model: each answer must be the same. */
public final class ModelTest {
    private static final int RUNS = 3000, CALLS = 512;
    private static final int[] ODD = {-1, -2, 0, 1, 2, 3, 4, 5, 15, 16, 59, 60, 61, 255, 256, 3499, 3500, 3531, 3532,
        4000, 4001, Integer.MIN_VALUE, Integer.MAX_VALUE};

    private static final Due due = new Due();

    private final Random random;
    private final FactLog log = new FactLog();
    private final Model model = new Model();
    private final String name;
    private int calls = 0;

    private ModelTest(int seed) {
        random = new Random(seed);
        name = "run " + seed;
    }

    public static void main(String[] args) {
        for (int seed = 0; seed < RUNS && due.isClean(); seed++) new ModelTest(seed).run();
        due.end();
    }

    private void run() {
        int style = random.nextInt(4);
        while (calls < CALLS - 120) {
            switch (random.nextInt(6) == 0 ? random.nextInt(4) : style) {
                case 0: aboutFacts(); break;
                case 1: aboutDisk(); break;
                case 2: aboutParcels(); break;
                default: alter(); break;
            }
        }
        lookAtAll();
    }

    private boolean chance(int oneIn) {
        return random.nextInt(oneIn) == 0;
    }

    private int odd() {
        return ODD[random.nextInt(ODD.length)];
    }

    private int number(int bound) {
        return chance(25) ? odd() : random.nextInt(bound);
    }

    /** Mostly a fact that is there, oftener a late one. */
    private int anyFact() {
        int all = Math.max(1, model.told(0));
        return chance(3) ? Math.max(0, all - 1 - random.nextInt(3)) : number(all);
    }

    private int same(String call, long got, long want) {
        calls++;
        due.is(name + ", call " + calls + ": " + call, got, want);
        return (int) want;
    }

    private void aboutFacts() {
        int thing = number(chance(2) ? 3 : 16), f = anyFact(), d = random.nextInt(3);
        switch (random.nextInt(12)) {
            case 0: same("change", log.change(thing, d), model.change(thing, d)); break;
            case 1: same("thing", log.thing(thing, d), model.thing(thing, d)); break;
            case 2: case 3: same("rest", log.rest(thing), model.rest(thing)); break;
            case 4: case 5: same("lean", log.lean(f), model.lean(f)); break;
            case 6: case 7: makeFact(); break;
            case 8: same("check", log.check(f), model.check(f)); break;
            case 9: if (chance(4)) same("drop", log.drop(f), model.drop(f)); break;
            case 10: same("usable", log.usable(f), model.usable(f)); break;
            default: ask(f, number(50)); break;
        }
    }

    private void makeFact() {
        int kind = number(4);
        long value = chance(4) ? random.nextLong() : random.nextInt(3);
        same("fact", log.fact(kind, value), model.fact(kind, value));
    }

    private void ask(int f, int what) {
        same("of " + f + " " + what, log.of(f, what), model.of(f, what));
        if (chance(3)) same("value " + f, log.value(f), model.value(f));
    }

    private void aboutDisk() {
        int place = random.nextInt(3532), mask = chance(2) ? 1 << random.nextInt(8) : random.nextInt();
        if (chance(2)) place = chance(2) ? random.nextInt(1 + model.told(3)) : 3500 + random.nextInt(32);
        switch (random.nextInt(9)) {
            case 0: case 1: case 2: saveSome(); break;
            case 3: same("open", log.open(), model.open()); break;
            case 4: same("disk", log.disk(place), model.disk(place)); break;
            case 5: if (chance(6)) same("poke", log.poke(place, mask), model.poke(place, mask)); break;
            case 6: {
                int what = number(8);
                same("told " + what, log.told(what), model.told(what));
                break;
            }
            default: makeFact(); break;
        }
    }

    private void saveSome() {
        int power = chance(3) ? random.nextInt(120) : chance(20) ? odd() : 4000;
        same("save " + power, log.save(power), model.save(power));
        if (model.told(5) == 1 && !chance(8)) same("open", log.open(), model.open());
    }

    private void aboutParcels() {
        int f = anyFact(), size = Math.max(1, model.item(-1));
        int i = number(size + 1), j = number(size + 1), n = chance(3) ? 1 : number(size + 1);
        boolean wide = chance(2);
        switch (random.nextInt(10)) {
            case 0: same("pack", log.pack(f, wide), model.pack(f, wide)); break;
            case 1: same("take", log.take(), model.take()); break;
            case 2: makeShelf(size); break;
            case 3: same("swap", log.swap(), model.swap()); break;
            case 4: same("move", log.move(i, j, n), model.move(i, j, n)); break;
            case 5: same("item", log.item(i), model.item(i)); break;
            case 6: setItem(i); break;
            case 7: mendAndTake(); break;
            case 8: if (model.told(0) > 50) same("open", log.open(), model.open()); break;
            default: aboutFacts(); break;
        }
    }

    private void makeShelf(int size) {
        int kind = number(2), n = chance(3) ? odd() : number(size + 2);
        same("shelf", log.shelf(kind, n), model.shelf(kind, n));
    }

    private void setItem(int i) {
        int v = chance(4) ? odd() : chance(2) ? random.nextInt(5) : random.nextInt(256);
        same("set", log.set(i, v), model.set(i, v));
    }

    /** Makes the last item right for those ahead of it, so that altered parcels come in, too. */
    private void mendAndTake() {
        int size = model.item(-1);
        if (size < 1) return;
        byte[] ahead = new byte[size - 1];
        for (int i = 0; i < size - 1; i++) ahead[i] = (byte) model.item(i);
        int sum = (int) (Model.sum(7, ahead, 0, size - 1) & 255);
        same("set", log.set(size - 1, sum), model.set(size - 1, sum));
        same("take", log.take(), model.take());
    }

    private void alter() {
        int f = anyFact();
        switch (random.nextInt(6)) {
            case 0:
                same("pack", log.pack(f, true), model.pack(f, true));
                for (int k = random.nextInt(3); k >= 0; k--) setItem(random.nextInt(Math.max(1, model.item(-1))));
                mendAndTake();
                break;
            case 1: if (chance(2)) alterHead(); break;
            case 2: saveSome(); break;
            case 3: if (model.told(0) > 50) same("open", log.open(), model.open()); break;
            default: aboutFacts(); break;
        }
    }

    /** A head of another generation or for fewer rows, with a sum that is right for the rows as they stand. */
    private void alterHead() {
        int h = random.nextInt(2), count = random.nextInt(model.told(2) + 1), at = 0;
        int told = chance(10) ? odd() : count;
        byte[] disk = new byte[3532];
        for (int i = 0; i < 3532; i++) disk[i] = (byte) model.disk(i);
        long sum = 1;
        for (int r = 0; r < count; r++) {
            int counts = at + 10 + 9 * (disk[at + 9] & 7);
            int end = counts + 1 + (disk[counts] & 3);
            sum = Model.sum(sum, disk, at, end);
            at = end + 8;
        }
        int[] head = Sums.head(chance(3) ? odd() : model.told(1) + random.nextInt(3) - 1, told, sum);
        for (int i = 0; i < 16; i++) {
            int place = 3500 + 16 * h + i, mask = model.disk(place) ^ head[i];
            if (mask != 0) same("poke", log.poke(place, mask), model.poke(place, mask));
        }
        if (chance(6)) {
            int place = random.nextInt(at + 1);
            same("poke", log.poke(place, 1), model.poke(place, 1));
        }
        same("open", log.open(), model.open());
    }

    private void lookAtAll() {
        for (int what = 0; what < 8; what++) same("told " + what, log.told(what), model.told(what));
        for (int f = 0; f < 60 && calls < CALLS - 30; f++) ask(f, random.nextInt(50));
        for (int i = -1; i < 12; i++) same("item " + i, log.item(i), model.item(i));
    }
}
