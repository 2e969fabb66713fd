import java.math.BigInteger;

/** SUM, written once more with whole numbers of any size, so that a slip in the class is not repeated here. */
final class Sums {
    private static final BigInteger FACTOR = new BigInteger("9E3779B97F4A7C15", 16);
    private static final BigInteger ALL = BigInteger.ONE.shiftLeft(64);

    private Sums() {
    }

    static long of(long beginning, int... bytes) {
        BigInteger s = BigInteger.valueOf(beginning).mod(ALL);
        for (int b : bytes) {
            s = s.xor(BigInteger.valueOf(b));
            s = s.shiftLeft(7).add(s.shiftRight(57)).mod(ALL);
            s = s.multiply(FACTOR).mod(ALL);
        }
        return s.longValue();
    }

    /** The parcel's last item, from the items ahead of it. */
    static int ofParcel(int... items) {
        return (int) (of(7, items) & 255);
    }

    /** A number's bytes, the highest first. */
    static int[] bytes(long number, int size) {
        int[] all = new int[size];
        for (int i = 0; i < size; i++) all[i] = (int) (number >> (8 * (size - 1 - i))) & 255;
        return all;
    }

    static int[] join(int[]... parts) {
        int length = 0;
        for (int[] part : parts) length += part.length;
        int[] all = new int[length];
        int at = 0;
        for (int[] part : parts) {
            System.arraycopy(part, 0, all, at, part.length);
            at += part.length;
        }
        return all;
    }

    static int[] head(int generation, int rows, long sumOfRows) {
        int[] front = join(bytes(generation, 4), bytes(rows, 4));
        return join(front, bytes(of(sumOfRows, front), 8));
    }

    /** Writes bytes on a disk by poking. */
    static void lay(FactLog log, int place, int... bytes) {
        for (int i = 0; i < bytes.length; i++) log.poke(place + i, log.disk(place + i) ^ bytes[i]);
    }

    /** Makes OUT an array of ints with these items; SHELF becomes what OUT was. */
    static void layOut(FactLog log, int... items) {
        log.shelf(1, items.length);
        log.swap();
        for (int i = 0; i < items.length; i++) log.set(i, items[i]);
    }
}
