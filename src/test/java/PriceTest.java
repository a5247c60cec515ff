/** Promises 18 to 21: steps, prices, indices and monthly prices. */
public final class PriceTest {
    private static final Check CHECK = new Check();

    public static void main(String[] args) {
        steps();
        stepsAreOfOneLot();
        prices();
        pricesAreAtLeastZero();
        pricesOfNone();
        indices();
        monthlies();
        monthliesRoundAndStop();
        CHECK.end();
    }

    /** One bidder and its bids, which win; the second bidder's bid 2 loses. */
    private static BaleTenders sold(long cents) {
        BaleTenders x = Check.withLots(4);
        x.bidder(true);
        x.bidder(true);
        Check.bidOn(x, 0, cents, 0, 1);
        Check.bidOn(x, 0, 7, 2);
        Check.bidOn(x, 1, 6, 2);
        Check.sealAndOpen(x, 0);
        Check.sealAndOpen(x, 1);
        x.run(8);
        return x;
    }

    private static void steps() {
        BaleTenders x = Check.withLots(3);
        CHECK.due("step of lot 3", x.step(3, 1, 2, 1), false);
        CHECK.due("step of lot -1", x.step(-1, 1, 2, 1), false);
        CHECK.due("below 0", x.step(0, 0, 0, 1), false);
        CHECK.due("below 1001", x.step(0, 1, 1001, 1), false);
        CHECK.due("above -1", x.step(0, -1, 2, 1), false);
        CHECK.due("above more than below", x.step(0, 3, 2, 1), false);
        CHECK.due("too many cents", x.step(0, 1, 2, 1000001), false);
        CHECK.due("too few cents", x.step(0, 1, 2, -1000001), false);
        CHECK.due("huge parts", x.step(0, Long.MAX_VALUE, Long.MAX_VALUE, 1), false);
        CHECK.due("least parts", x.step(0, Long.MIN_VALUE, Long.MIN_VALUE, 1), false);
        CHECK.due("least cents", x.step(0, 1, 2, Long.MIN_VALUE), false);
        CHECK.due("share 0", x.step(0, 0, 7, 1000000), true);
        CHECK.due("share 0 again", x.step(0, 0, 1, 1), false);
        CHECK.due("share 1/1000", x.step(0, 1, 1000, -1000000), true);
        CHECK.due("share 500/1000", x.step(0, 500, 1000, 0), true);
        CHECK.due("share 1/2 again", x.step(0, 1, 2, 1), false);
        CHECK.due("a smaller share", x.step(0, 499, 999, 1), false);
        CHECK.due("a share just greater", x.step(0, 500, 999, 1), true);
        CHECK.due("share 2/3", x.step(0, 2, 3, 1), true);
        CHECK.due("share 1", x.step(0, 1000, 1000, 1), true);
        CHECK.due("share 1 again", x.step(0, 1, 1, 1), false);
        for (int s = 1; s <= 6; s++) {
            CHECK.due("step " + s, x.step(1, s, 10, s), true);
        }
        CHECK.due("seventh step", x.step(1, 7, 10, 7), false);
        CHECK.due("share 1 at first", x.step(2, 1, 1, 1), true);
    }

    private static void stepsAreOfOneLot() {
        BaleTenders x = Check.withLots(2);
        CHECK.due("step of lot 0", x.step(0, 1, 2, 1), true);
        CHECK.due("smaller step of lot 1", x.step(1, 1, 3, 1), true);
    }

    private static void prices() {
        BaleTenders x = sold(1000);
        CHECK.due("price without steps", x.price(0, 1, 2), 1000);
        x.step(0, 1, 3, 100);
        x.step(0, 1, 2, 30);
        x.step(0, 9, 10, -200);
        x.step(1, 1, 2, 5);
        x.step(2, 0, 1, 900);
        x.step(3, 0, 1, 77);
        CHECK.due("share 0", x.price(0, 0, 1), 1000);
        CHECK.due("just below 1/3", x.price(0, 333, 1000), 1000);
        CHECK.due("1/3", x.price(0, 1, 3), 1100);
        CHECK.due("2/6", x.price(0, 2, 6), 1100);
        CHECK.due("just below 1/2", x.price(0, 499, 1000), 1100);
        CHECK.due("1/2: the last step alone, of each lot", x.price(0, 500, 1000), 1035);
        CHECK.due("just below 9/10", x.price(0, 899, 1000), 1035);
        CHECK.due("9/10", x.price(0, 9, 10), 805);
        CHECK.due("1", x.price(0, 1000, 1000), 805);
        CHECK.due("another bid", x.price(1, 1, 2), 907);
        x.step(1, 1, 1, 50);
        CHECK.due("steps as they are", x.price(0, 1, 1), 850);
    }

    private static void pricesAreAtLeastZero() {
        BaleTenders x = sold(1000);
        x.step(0, 0, 1, -900);
        x.step(1, 0, 1, -100);
        CHECK.due("just 0", x.price(0, 0, 1), 0);
        x.step(1, 1, 2, -101);
        CHECK.due("not less than 0", x.price(0, 1, 2), 0);
        x.step(1, 3, 4, 1000000);
        CHECK.due("0 at last, not between", x.price(0, 3, 4), 1000100);
        BaleTenders y = sold(0);
        y.step(0, 0, 1, -5);
        y.step(1, 0, 1, 9);
        CHECK.due("0 at last only", y.price(0, 0, 1), 4);
    }

    private static void pricesOfNone() {
        BaleTenders x = sold(1000);
        CHECK.due("loser", x.price(2, 1, 2), -1);
        CHECK.due("bid 3", x.price(3, 1, 2), -1);
        CHECK.due("bid -1", x.price(-1, 1, 2), -1);
        CHECK.due("bid 32", x.price(32, 1, 2), -1);
        CHECK.due("below 0", x.price(0, 0, 0), -1);
        CHECK.due("below 1001", x.price(0, 1, 1001), -1);
        CHECK.due("above -1", x.price(0, -1, 1), -1);
        CHECK.due("above more", x.price(0, 2, 1), -1);
        CHECK.due("huge", x.price(0, Long.MAX_VALUE, Long.MAX_VALUE), -1);
        CHECK.due("least share", x.price(0, 0, 1), 1000);
        CHECK.due("greatest share", x.price(0, 1000, 1000), 1000);
    }

    private static void indices() {
        BaleTenders x = new BaleTenders();
        CHECK.due("month -1", x.index(-1, 1, 1), false);
        CHECK.due("month 60", x.index(60, 1, 1), false);
        CHECK.due("above 0", x.index(0, 0, 1), false);
        CHECK.due("below 0", x.index(0, 1, 0), false);
        CHECK.due("above -1", x.index(0, -1, 1), false);
        CHECK.due("below -1", x.index(0, 1, -1), false);
        CHECK.due("above 1001", x.index(0, 1001, 1), false);
        CHECK.due("below 1001", x.index(0, 1, 1001), false);
        CHECK.due("huge", x.index(0, 1L << 32, 1L << 32), false);
        CHECK.due("month 0", x.index(0, 1, 1000), true);
        CHECK.due("month 0 again", x.index(0, 1, 1000), false);
        CHECK.due("month 59", x.index(59, 1000, 1), true);
        CHECK.due("month 59 again", x.index(59, 2, 1), false);
    }

    private static void monthlies() {
        BaleTenders x = sold(1000);
        x.step(0, 0, 1, 500);
        CHECK.due("no index, no steps", x.monthly(0, 59), 1000);
        x.index(5, 3, 2);
        x.index(2, 1, 4);
        x.index(59, 2, 1);
        x.index(0, 11, 10);
        CHECK.due("month 0", x.monthly(0, 0), 1100);
        CHECK.due("month 1", x.monthly(0, 1), 1100);
        CHECK.due("month 2", x.monthly(0, 2), 275);
        CHECK.due("month 4", x.monthly(0, 4), 275);
        CHECK.due("month 5", x.monthly(0, 5), 412);
        CHECK.due("month 58", x.monthly(0, 58), 412);
        CHECK.due("month 59", x.monthly(0, 59), 824);
        CHECK.due("month 60", x.monthly(0, 60), -1);
        CHECK.due("month -1", x.monthly(0, -1), -1);
        CHECK.due("month min", x.monthly(0, Integer.MIN_VALUE), -1);
        CHECK.due("month max", x.monthly(0, Integer.MAX_VALUE), -1);
        CHECK.due("loser", x.monthly(2, 0), -1);
        CHECK.due("bid 3", x.monthly(3, 0), -1);
        CHECK.due("bid -1", x.monthly(-1, 0), -1);
    }

    private static void monthliesRoundAndStop() {
        BaleTenders x = sold(10);
        x.index(0, 1, 3);
        x.index(1, 3, 1);
        CHECK.due("down, month by month", x.monthly(0, 1), 9);
        BaleTenders y = sold(100000000L);
        for (int m = 0; m < 60; m++) {
            y.index(m, m == 1 || m == 59 ? 1 : 1000, m == 1 || m == 59 ? 2 : 1);
        }
        CHECK.due("below the greatest", y.monthly(0, 0), 100000000000L);
        CHECK.due("half of it", y.monthly(0, 1), 50000000000L);
        CHECK.due("the greatest", y.monthly(0, 2), 1000000000000L);
        CHECK.due("still the greatest", y.monthly(0, 58), 1000000000000L);
        CHECK.due("half of the greatest", y.monthly(0, 59), 500000000000L);
    }
}
