/**
 * A log of facts, each with what it rests on; a disk on which writing may be cut at any byte; parcels of facts.
 *
 * No call makes an array: all rows stand from the constructor on and are used again, so that a long run of calls
 * takes no more room than a new object. ../shared/DOC.md says what each call promises.
 */
public final class FactLog {
    public static final int BAD = -1, NO = -2, FULL = -3, NONE = -4, DARK = -5;

    private static final int FAILURE_NULL = -11, FAILURE_INDEX = -12, FAILURE_STORE = -13, FAILURE_SIZE = -14;
    private static final int WRONG_ITEM = -100;

    private static final int THINGS = 16, MOST_FACTS = 60, MOST_RESTS = 4, MOST_LEANS = 3, MOST_ITEMS = 4000;
    private static final int PROOF = 1, TEST = 2, SILENCE = 3;
    private static final int TEST_STANDS_CHANGES = 2;

    private static final int LOG_BYTES = 3500, HEAD_BYTES = 16, HEADS = 2;
    private static final int DISK_BYTES = LOG_BYTES + HEADS * HEAD_BYTES;
    private static final int SUM_BYTES = 8;

    private static final long LOG_BEGINNING = 1L, PARCEL_BEGINNING = 7L;
    private static final long SUM_FACTOR = 0x9E3779B97F4A7C15L;

    private static final int NOTHING = 0, BYTES = 1, INTS = 2;

    private final Things things = new Things();
    private final Book book = new Book();
    private final Fact next = new Fact();
    private final Disk store = new Disk();
    private final Reader reader = new Reader();
    private final Writer writer = new Writer();
    private final int[] parcelNumbers = new int[MOST_FACTS];
    private Items outItems = new Items();
    private Items shelfItems = new Items();

    public FactLog() {
    }

    // ---- things and facts

    public int change(int thing, int d) {
        if (store.dark) return DARK;
        if (!things.hasNumber(thing)) return BAD;
        things.digests[thing] = d;
        things.changes[thing]++;
        return book.uncheckAllOn(thing);
    }

    public int thing(int thing, int what) {
        if (store.dark) return DARK;
        if (!things.hasNumber(thing)) return BAD;
        switch (what) {
            case 0: return things.digests[thing];
            case 1: return things.changes[thing];
            default: return BAD;
        }
    }

    public int rest(int thing) {
        if (store.dark) return DARK;
        if (!things.hasNumber(thing)) return BAD;
        if (next.restsOn(thing)) return next.thingCount;
        if (next.thingCount >= MOST_RESTS) return FULL;
        // What the thing is like is looked up when the fact comes, not now.
        next.addThing(thing, 0, 0);
        return next.thingCount;
    }

    public int lean(int fact) {
        if (store.dark) return DARK;
        if (!book.hasNumber(fact)) return BAD;
        if (next.leansOn(fact)) return next.factCount;
        if (next.factCount >= MOST_LEANS) return FULL;
        next.addFact(fact);
        return next.factCount;
    }

    public int fact(int kind, long value) {
        if (store.dark) return DARK;
        if (kind < 0 || kind > SILENCE) return BAD;
        if (book.count >= MOST_FACTS) return FULL;
        Fact added = book.facts[book.count];
        added.clear();
        added.kind = kind;
        added.value = value;
        added.restAsTold(next, things);
        next.clear();
        return book.count++;
    }

    public int check(int fact) {
        if (store.dark) return DARK;
        if (!book.hasNumber(fact)) return BAD;
        Fact checked = book.facts[fact];
        if (checked.dropped || !book.groundIsUsable(fact, things)) return NO;
        if (book.holds(checked, things)) {
            checked.checked = true;
            return 1;
        }
        checked.dropped = true;
        return 0;
    }

    public int drop(int fact) {
        if (store.dark) return DARK;
        if (!book.hasNumber(fact)) return BAD;
        if (book.facts[fact].dropped) return NO;
        book.facts[fact].dropped = true;
        return 1;
    }

    public int usable(int fact) {
        if (store.dark) return DARK;
        if (!book.hasNumber(fact)) return BAD;
        return oneIf(isIn(book.usableUpTo(fact, things), fact));
    }

    public int of(int fact, int what) {
        if (store.dark) return DARK;
        if (!book.hasNumber(fact)) return BAD;
        Fact asked = book.facts[fact];
        switch (what) {
            case 0: return asked.kind;
            case 1: return oneIf(asked.checked);
            case 2: return oneIf(asked.dropped);
            case 3: return oneIf(asked.isFresh(things));
            case 4: return asked.thingCount;
            case 5: return asked.factCount;
            case 6: return oneIf(fact < store.rows);
            default: return asked.groundAt(what);
        }
    }

    public long value(int fact) {
        if (store.dark || !book.hasNumber(fact)) return 0L;
        return book.facts[fact].value;
    }

    // ---- the disk

    public int save(int power) {
        if (store.dark) return DARK;
        if (power < 0) return BAD;
        if (!store.hasRoomFor(book)) return FULL;
        return store.writeAll(book, writer, power);
    }

    public int open() {
        store.readAll(book, reader);
        next.clear();
        return book.count;
    }

    public int disk(int place) throws ArrayIndexOutOfBoundsException {
        if (place < 0 || place >= DISK_BYTES) throw new ArrayIndexOutOfBoundsException("no such place on the disk");
        return store.bytes[place];
    }

    public int poke(int place, int mask) throws ArrayIndexOutOfBoundsException {
        if (place < 0 || place >= DISK_BYTES) throw new ArrayIndexOutOfBoundsException("no such place on the disk");
        store.bytes[place] ^= mask & 255;
        return store.bytes[place];
    }

    public int told(int what) {
        switch (what) {
            case 0: return book.count;
            case 1: return store.generation;
            case 2: return store.rows;
            case 3: return store.used;
            case 4: return store.openedHead;
            case 5: return oneIf(store.dark);
            case 6: return store.wrongRows[0];
            case 7: return store.wrongRows[1];
            default: return BAD;
        }
    }

    // ---- parcels

    public int pack(int fact, boolean wide) {
        if (store.dark) return DARK;
        if (!book.hasNumber(fact)) return BAD;
        long inside = book.withGround(fact);
        writer.begin(outItems.items, MOST_ITEMS, PARCEL_BEGINNING);
        writer.put(Long.bitCount(inside));
        int packed = 0;
        for (int i = 0; i <= fact; i++) {
            if (!isIn(inside, i)) continue;
            parcelNumbers[i] = packed;
            packed++;
            writer.putRow(book.facts[i], parcelNumbers);
        }
        writer.putPlain(writer.sum, 1);
        outItems.kind = wide ? INTS : BYTES;
        outItems.length = writer.at;
        return outItems.length;
    }

    public int take() {
        if (store.dark) return DARK;
        if (outItems.kind == NOTHING) return FAILURE_NULL;
        int taken = readParcel();
        if (reader.failed) return WRONG_ITEM - reader.at;
        if (taken > MOST_FACTS - book.count) return FULL;
        book.addRead(taken);
        return taken;
    }

    public int shelf(int kind, int n) {
        if (store.dark) return DARK;
        if (kind < 0 || kind > 1 || n > MOST_ITEMS) return BAD;
        if (n < 0) return FAILURE_SIZE;
        shelfItems.beginAnew(kind == 0 ? BYTES : INTS, n);
        return n;
    }

    public int swap() {
        if (store.dark) return DARK;
        Items was = outItems;
        outItems = shelfItems;
        shelfItems = was;
        return outItems.kind;
    }

    public int move(int i, int j, int n) {
        if (store.dark) return DARK;
        if (outItems.kind == NOTHING || shelfItems.kind == NOTHING) return FAILURE_NULL;
        if (outItems.kind != shelfItems.kind) return FAILURE_STORE;
        if (!outItems.hasSpan(i, n) || !shelfItems.hasSpan(j, n)) return FAILURE_INDEX;
        System.arraycopy(outItems.items, i, shelfItems.items, j, n);
        return n;
    }

    public int item(int i) {
        if (store.dark) return DARK;
        if (outItems.kind == NOTHING) return FAILURE_NULL;
        if (i == -1) return outItems.length;
        if (!outItems.hasSpan(i, 1)) return FAILURE_INDEX;
        return outItems.items[i];
    }

    public int set(int i, int v) {
        if (store.dark) return DARK;
        if (outItems.kind == NOTHING) return FAILURE_NULL;
        if (!outItems.hasSpan(i, 1)) return FAILURE_INDEX;
        outItems.items[i] = outItems.kind == BYTES ? v & 255 : v;
        return 1;
    }

    /** Reads OUT into free places of the book, which count as facts only when take() says so. */
    private int readParcel() {
        reader.begin(outItems.items, outItems.length, PARCEL_BEGINNING);
        int told = reader.nextUpTo(MOST_FACTS);
        for (int i = 0; i < told && !reader.failed; i++) {
            reader.nextRow(book.freePlace(i), i);
        }
        reader.expect(lowestByte(reader.sum));
        reader.expectEnd();
        return told;
    }

    private static int oneIf(boolean so) {
        return so ? 1 : 0;
    }

    /** Sets of facts are longs, one bit a fact: 60 facts have room in 64 bits. */
    private static boolean isIn(long set, int number) {
        return (set >>> number & 1L) != 0L;
    }

    private static int lowestByte(long number) {
        return (int) (number & 255L);
    }

    private static long sumWith(long sum, int b) {
        long mixed = sum ^ b;
        return (mixed << 7 | mixed >>> 57) * SUM_FACTOR;
    }

    private static boolean isAmong(int number, int[] numbers, int count) {
        for (int i = 0; i < count && i < numbers.length; i++) {
            if (numbers[i] == number) return true;
        }
        return false;
    }

    private static final class Things {
        final int[] digests = new int[THINGS];
        final int[] changes = new int[THINGS];

        boolean hasNumber(int thing) {
            return thing >= 0 && thing < THINGS;
        }
    }

    /** One fact, or what is told so far of the next one. */
    private static final class Fact {
        int kind;
        long value;
        boolean checked;
        boolean dropped;
        int thingCount;
        final int[] things = new int[MOST_RESTS];
        final int[] digests = new int[MOST_RESTS];
        final int[] changes = new int[MOST_RESTS];
        int factCount;
        final int[] facts = new int[MOST_LEANS];

        void clear() {
            kind = 0;
            value = 0L;
            checked = false;
            dropped = false;
            thingCount = 0;
            factCount = 0;
        }

        boolean restsOn(int thing) {
            return isAmong(thing, things, thingCount);
        }

        boolean leansOn(int fact) {
            return isAmong(fact, facts, factCount);
        }

        void addThing(int thing, int digest, int changed) {
            if (thingCount >= MOST_RESTS) return;
            things[thingCount] = thing;
            digests[thingCount] = digest;
            changes[thingCount] = changed;
            thingCount++;
        }

        void addFact(int fact) {
            if (factCount >= MOST_LEANS) return;
            facts[factCount] = fact;
            factCount++;
        }

        void restAsTold(Fact told, Things now) {
            for (int i = 0; i < told.thingCount; i++) {
                int thing = told.things[i];
                addThing(thing, now.digests[thing], now.changes[thing]);
            }
            for (int i = 0; i < told.factCount; i++) {
                addFact(told.facts[i]);
            }
        }

        long leanSet() {
            long set = 0L;
            for (int i = 0; i < factCount; i++) {
                set |= 1L << facts[i];
            }
            return set;
        }

        boolean isFresh(Things now) {
            for (int i = 0; i < thingCount; i++) {
                int thing = things[i];
                boolean same = now.digests[thing] == digests[i];
                int since = now.changes[thing] - changes[i];
                if (!standsWith(same, since)) return false;
            }
            return true;
        }

        private boolean standsWith(boolean sameDigest, int changesSince) {
            switch (kind) {
                case TEST: return sameDigest || (changesSince >= 0 && changesSince <= TEST_STANDS_CHANGES);
                case SILENCE: return sameDigest && changesSince == 0;
                default: return sameDigest;
            }
        }

        /** The answers of of() from 10 on: tens tell what is asked, ones of which. */
        int groundAt(int what) {
            if (what < 10) return BAD;
            int i = what % 10;
            switch (what / 10) {
                case 1: return i < thingCount ? things[i] : BAD;
                case 2: return i < thingCount ? digests[i] : BAD;
                case 3: return i < thingCount ? changes[i] : BAD;
                case 4: return i < factCount ? facts[i] : BAD;
                default: return BAD;
            }
        }

        int rowBytes() {
            return 1 + 8 + 1 + thingCount * 9 + 1 + factCount + SUM_BYTES;
        }
    }

    /** The facts. One rests only on lesser numbers, so one way through them in order finds all that hangs together. */
    private static final class Book {
        final Fact[] facts = new Fact[MOST_FACTS];
        int count;
        /** Where facts of a parcel go that have no place here: the parcel is looked through to its end all the same. */
        private final Fact beyond = new Fact();

        Book() {
            for (int i = 0; i < MOST_FACTS; i++) {
                facts[i] = new Fact();
            }
        }

        boolean hasNumber(int fact) {
            return fact >= 0 && fact < count;
        }

        Fact freePlace(int behind) {
            return behind >= 0 && behind < MOST_FACTS - count ? facts[count + behind] : beyond;
        }

        /** Makes facts of the first free places; their numbers of facts, till now the parcel's, become the book's. */
        void addRead(int read) {
            int before = count;
            for (int i = 0; i < read && count < MOST_FACTS; i++) {
                Fact added = facts[count];
                for (int k = 0; k < added.factCount; k++) {
                    added.facts[k] += before;
                }
                count++;
            }
        }

        int uncheckAllOn(int thing) {
            long resting = 0L;
            int unchecked = 0;
            for (int i = 0; i < count; i++) {
                Fact fact = facts[i];
                if (!fact.restsOn(thing) && (fact.leanSet() & resting) == 0L) continue;
                resting |= 1L << i;
                if (fact.checked) unchecked++;
                fact.checked = false;
            }
            return unchecked;
        }

        long usableUpTo(int last, Things now) {
            long usable = 0L;
            for (int i = 0; i <= last && i < count; i++) {
                Fact fact = facts[i];
                boolean good = !fact.dropped && (fact.checked || fact.isFresh(now));
                if (good && (fact.leanSet() & ~usable) == 0L) usable |= 1L << i;
            }
            return usable;
        }

        boolean groundIsUsable(int number, Things now) {
            return (facts[number].leanSet() & ~usableUpTo(number - 1, now)) == 0L;
        }

        boolean holds(Fact fact, Things now) {
            if (fact.kind != PROOF) return fact.isFresh(now);
            long total = 0L;
            for (int i = 0; i < fact.factCount; i++) {
                total += facts[fact.facts[i]].value;
            }
            return total == fact.value;
        }

        long withGround(int number) {
            long set = 1L << number;
            for (int i = number; i >= 0; i--) {
                if (isIn(set, i)) set |= facts[i].leanSet();
            }
            return set;
        }
    }

    /** The disk, with what is known of its log since it was saved or opened last. */
    private static final class Disk {
        final int[] bytes = new int[DISK_BYTES];
        boolean dark;
        int generation;
        int rows;
        int used;
        int openedHead = NONE;
        final int[] wrongRows = {NONE, NONE};
        /** The sum of the last row is kept here, so that poking the disk does not spoil rows that come later. */
        private long sum = LOG_BEGINNING;
        private final int[] ownNumbers = new int[MOST_FACTS];
        private final int[] rowEnds = new int[MOST_FACTS + 1];
        private final long[] rowSums = new long[MOST_FACTS + 1];

        Disk() {
            for (int i = 0; i < MOST_FACTS; i++) {
                ownNumbers[i] = i;
            }
        }

        boolean hasRoomFor(Book book) {
            int wanted = used;
            for (int i = rows; i < book.count; i++) {
                wanted += book.facts[i].rowBytes();
            }
            return wanted <= LOG_BYTES;
        }

        int writeAll(Book book, Writer writer, int power) {
            writer.begin(bytes, power, sum);
            writer.at = used;
            for (int i = rows; i < book.count; i++) {
                writer.putRow(book.facts[i], ownNumbers);
                writer.putPlain(writer.sum, SUM_BYTES);
            }
            int rowsEnd = writer.at;
            long rowsSum = writer.sum;
            writeHead(book.count, writer);
            if (writer.cut) {
                dark = true;
            } else {
                generation++;
                rows = book.count;
                used = rowsEnd;
                sum = rowsSum;
            }
            return power - writer.left;
        }

        private void writeHead(int rowCount, Writer writer) {
            int coming = generation + 1;
            // The lowest bit is the number modulo 2 of numbers below 0, too.
            writer.at = headPlace(coming & 1);
            writer.putNumber(coming, 4);
            writer.putNumber(rowCount, 4);
            writer.putPlain(writer.sum, SUM_BYTES);
        }

        void readAll(Book book, Reader reader) {
            int right = readRows(book, reader);
            openedHead = NONE;
            for (int head = 0; head < HEADS; head++) {
                wrongRows[head] = firstWrongRow(head, right);
                if (!isWhole(head)) continue;
                if (openedHead == NONE || generationOf(head) > generationOf(openedHead)) openedHead = head;
            }
            generation = openedHead == NONE ? 0 : generationOf(openedHead);
            rows = openedHead == NONE ? 0 : rowsOf(openedHead);
            used = rowEnds[rows];
            sum = rowSums[rows];
            book.count = rows;
            dark = false;
        }

        /** Reads rows into the book as far as they are right: how many are. */
        private int readRows(Book book, Reader reader) {
            reader.begin(bytes, LOG_BYTES, LOG_BEGINNING);
            rowEnds[0] = 0;
            rowSums[0] = LOG_BEGINNING;
            for (int row = 0; row < MOST_FACTS; row++) {
                reader.nextRow(book.facts[row], row);
                reader.expectSum();
                if (reader.failed) return row;
                rowEnds[row + 1] = reader.at;
                rowSums[row + 1] = reader.sum;
            }
            return MOST_FACTS;
        }

        private int firstWrongRow(int head, int right) {
            int told = rowsOf(head);
            if (told < 0 || told > MOST_FACTS) return MOST_FACTS;
            return told <= right ? NONE : right;
        }

        private boolean isWhole(int head) {
            if (wrongRows[head] != NONE) return false;
            int place = headPlace(head);
            long found = rowSums[rowsOf(head)];
            for (int i = 0; i < 8; i++) {
                found = sumWith(found, bytes[place + i]);
            }
            return found == numberAt(place + 8, SUM_BYTES);
        }

        private int generationOf(int head) {
            return (int) numberAt(headPlace(head), 4);
        }

        private int rowsOf(int head) {
            return (int) numberAt(headPlace(head) + 4, 4);
        }

        private long numberAt(int place, int size) {
            long number = 0L;
            for (int i = 0; i < size; i++) {
                number = number << 8 | bytes[place + i];
            }
            return number;
        }

        private static int headPlace(int head) {
            return LOG_BYTES + head * HEAD_BYTES;
        }
    }

    /** OUT or SHELF. Its row is as long as any of them may be; items of bytes are kept as 0 .. 255. */
    private static final class Items {
        int kind = NOTHING;
        int length;
        final int[] items = new int[MOST_ITEMS];

        void beginAnew(int newKind, int newLength) {
            kind = newKind;
            length = newLength;
            for (int i = 0; i < newLength && i < MOST_ITEMS; i++) {
                items[i] = 0;
            }
        }

        boolean hasSpan(int from, int size) {
            return from >= 0 && size >= 0 && from <= length && size <= length - from;
        }
    }

    /** Writes bytes and sums them up; from the first byte on for which no power is left it writes none. */
    private static final class Writer {
        int at;
        int left;
        boolean cut;
        long sum;
        private int[] items = new int[0];

        void begin(int[] target, int power, long beginning) {
            items = target;
            at = 0;
            left = power;
            cut = false;
            sum = beginning;
        }

        void put(int b) {
            sum = sumWith(sum, b);
            putOne(b);
        }

        void putNumber(long number, int size) {
            for (int i = size - 1; i >= 0; i--) {
                put(lowestByte(number >>> 8 * i));
            }
        }

        /** A sum's own bytes are not summed up. */
        void putPlain(long number, int size) {
            for (int i = size - 1; i >= 0; i--) {
                putOne(lowestByte(number >>> 8 * i));
            }
        }

        /** A row without its sum; numbers has the number that each fact bears there. */
        void putRow(Fact fact, int[] numbers) {
            put(fact.kind);
            putNumber(fact.value, 8);
            put(fact.thingCount);
            for (int i = 0; i < fact.thingCount; i++) {
                put(fact.things[i]);
                putNumber(fact.digests[i], 4);
                putNumber(fact.changes[i], 4);
            }
            put(fact.factCount);
            for (int i = 0; i < fact.factCount; i++) {
                put(numbers[fact.facts[i]]);
            }
        }

        private void putOne(int b) {
            if (cut || left <= 0 || at < 0 || at >= items.length) {
                cut = true;
                return;
            }
            items[at] = b;
            at++;
            left--;
        }
    }

    /** Reads bytes and sums them up; at the first item that can't be so it fails, and stays there. */
    private static final class Reader {
        int at;
        boolean failed;
        long sum;
        private int end;
        private int[] items = new int[0];

        void begin(int[] source, int length, long beginning) {
            items = source;
            end = length <= source.length ? length : source.length;
            at = 0;
            failed = false;
            sum = beginning;
        }

        /** The next byte, if it is at most so much; 0 when reading has failed. */
        int nextUpTo(int most) {
            if (failed || at >= end || items[at] < 0 || items[at] > most) {
                failed = true;
                return 0;
            }
            int b = items[at];
            sum = sumWith(sum, b);
            at++;
            return b;
        }

        private int nextUnlike(int most, int[] numbers, int count) {
            if (at < end && isAmong(items[at], numbers, count)) failed = true;
            return nextUpTo(most);
        }

        private long nextNumber(int size) {
            long number = 0L;
            for (int i = 0; i < size; i++) {
                number = number << 8 | nextUpTo(255);
            }
            return number;
        }

        void nextRow(Fact fact, int row) {
            fact.clear();
            fact.kind = nextUpTo(SILENCE);
            fact.value = nextNumber(8);
            int thingsTold = nextUpTo(MOST_RESTS);
            for (int i = 0; i < thingsTold && !failed; i++) {
                int thing = nextUnlike(THINGS - 1, fact.things, fact.thingCount);
                int digest = (int) nextNumber(4);
                int changed = (int) nextNumber(4);
                fact.addThing(thing, digest, changed);
            }
            int factsTold = nextUpTo(MOST_LEANS);
            for (int i = 0; i < factsTold && !failed; i++) {
                fact.addFact(nextUnlike(row - 1, fact.facts, fact.factCount));
            }
        }

        /** The next item must be this byte, which is not summed up. */
        void expect(int b) {
            if (failed || at >= end || items[at] != b) {
                failed = true;
                return;
            }
            at++;
        }

        void expectSum() {
            for (int i = SUM_BYTES - 1; i >= 0; i--) {
                expect(lowestByte(sum >>> 8 * i));
            }
        }

        void expectEnd() {
            if (at < end) failed = true;
        }
    }
}
