/** Rows, logs and parcels as the document lays them out, item by item. */
final class Rows {
    static final int[][] NO_THINGS = {};

    private Rows() {
    }

    /** A row without its sum; each of the things is its number, digest and changes. */
    static int[] row(int kind, long value, int[][] things, int... facts) {
        int[] all = Sums.join(new int[] {kind}, Sums.bytes(value, 8), new int[] {things.length});
        for (int[] thing : things) {
            all = Sums.join(all, new int[] {thing[0]}, Sums.bytes(thing[1], 4), Sums.bytes(thing[2], 4));
        }
        return Sums.join(all, new int[] {facts.length}, facts);
    }

    static int[] plain(long value, int... facts) {
        return row(0, value, NO_THINGS, facts);
    }

    /** Things with these numbers, each with a digest of 1 and 2 changes. */
    static int[][] things(int... numbers) {
        int[][] all = new int[numbers.length][];
        for (int i = 0; i < all.length; i++) all[i] = new int[] {numbers[i], 1, 2};
        return all;
    }

    /** The sum of the last of these rows. */
    static long sumOf(int[]... rows) {
        long sum = 1;
        for (int[] row : rows) sum = Sums.of(sum, row);
        return sum;
    }

    /** These rows with their sums, as they stand in the log. */
    static int[] log(int[]... rows) {
        int[] all = {};
        long sum = 1;
        for (int[] row : rows) {
            sum = Sums.of(sum, row);
            all = Sums.join(all, row, Sums.bytes(sum, 8));
        }
        return all;
    }

    static int[] parcel(int[]... rows) {
        int[] all = Sums.join(new int[] {rows.length}, Sums.join(rows));
        return Sums.join(all, new int[] {Sums.ofParcel(all)});
    }
}
