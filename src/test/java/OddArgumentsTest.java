/** No call throws, whatever its arguments, on an empty object and on a full one. */
public final class OddArgumentsTest {
    private static final int[] INTS = {
        Integer.MIN_VALUE, -33, -1, 0, 5, 6, 7, 8, 11, 12, 19, 20, 31, 32, 59, 60, Integer.MAX_VALUE};
    private static final long[] LONGS = {
        Long.MIN_VALUE, -1, 0, 1, 2, 1000, 1001, 1L << 32, Long.MAX_VALUE};

    public static void main(String[] args) {
        Check check = new Check();
        for (int i : INTS) {
            for (int j : INTS) {
                BaleTenders empty = new BaleTenders();
                empty.verdict(i);
                callAll(empty, i, j);
                callAll(full(), i, j);
            }
        }
        check.due("calls came to their end", true, true);
        check.end();
    }

    private static BaleTenders full() {
        BaleTenders x = Check.withLots(8);
        for (int b = 0; b < 6; b++) {
            x.bidder(true);
        }
        for (int b = 0; b < 12; b++) {
            Check.bidOn(x, b % 6, b, b % 8, (b + 3) % 8);
        }
        for (int b = 0; b < 6; b++) {
            Check.sealAndOpen(x, b);
        }
        x.run(4096);
        return x;
    }

    private static void callAll(BaleTenders x, int i, int j) {
        for (long a : LONGS) {
            x.lot(a);
            x.time(i, a);
            x.bid(i, a);
            x.digest(i, a, j);
            x.open(i, a);
            x.run(a);
            for (long c : LONGS) {
                x.step(i, a, c, j);
                x.price(i, a, c);
                x.index(i, a, c);
            }
        }
        x.most(i, j);
        x.on(i, j);
        x.seal(i, j, i);
        x.seal(i, 0, j);
        x.wins(i);
        x.second(i);
        x.tie(i, j);
        x.monthly(i, j);
        x.dispute(i, j);
        x.verdict(i);
        x.sum();
        x.bound();
        x.proved();
    }
}
