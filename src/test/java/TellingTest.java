/** Promises 1 to 8: a new object, lots, bidders, times, mosts, bids, their lots, and seals. */
public final class TellingTest {
    private static final Check CHECK = new Check();

    public static void main(String[] args) {
        newObject();
        lots();
        bidders();
        times();
        mosts();
        bids();
        bidsOnLots();
        seals();
        openedBiddersAreClosedToTelling();
        CHECK.end();
    }

    private static void newObject() {
        BaleTenders x = new BaleTenders();
        CHECK.due("new sum", x.sum(), -1);
        CHECK.due("new bound", x.bound(), 0);
        CHECK.due("new proved", x.proved(), false);
        CHECK.due("new wins", x.wins(0), false);
        CHECK.due("new second", x.second(0), -1);
        CHECK.due("new tie", x.tie(0, 0), -1);
        CHECK.due("new price", x.price(0, 1, 2), -1);
        CHECK.due("new monthly", x.monthly(0, 0), -1);
        CHECK.due("new digest", x.digest(0, 1, 0), -1);
        CHECK.due("new open", x.open(0, 1), -1);
        CHECK.due("new time", x.time(0, 1), false);
        CHECK.due("new most", x.most(0, 1), false);
        CHECK.due("new on", x.on(0, 0), false);
        CHECK.due("new step", x.step(0, 1, 2, 1), false);
        CHECK.due("new dispute", x.dispute(0, 1), -1);
        CHECK.due("new verdict", x.verdict(0), -1);
        BaleTenders y = new BaleTenders();
        y.lot(1);
        CHECK.due("objects share nothing", x.lot(1), 0);
    }

    private static void lots() {
        BaleTenders x = new BaleTenders();
        long[] refused = {0, -1, 1000000001L, Long.MIN_VALUE, Long.MAX_VALUE, 1L << 32};
        for (long grams : refused) {
            CHECK.due("lot(" + grams + ")", x.lot(grams), -1);
        }
        CHECK.due("lot(1)", x.lot(1), 0);
        CHECK.due("lot(1000000000)", x.lot(1000000000L), 1);
        for (int l = 2; l < 8; l++) {
            CHECK.due("lot " + l, x.lot(5), l);
        }
        CHECK.due("ninth lot", x.lot(5), -1);
        CHECK.due("ninth lot again", x.lot(5), -1);
    }

    private static void bidders() {
        BaleTenders x = new BaleTenders();
        for (int b = 0; b < 6; b++) {
            CHECK.due("bidder " + b, x.bidder(b % 2 == 0), b);
        }
        CHECK.due("seventh bidder", x.bidder(true), -1);
        CHECK.due("seventh bidder, not qualified", x.bidder(false), -1);
    }

    private static void times() {
        BaleTenders x = new BaleTenders();
        x.bidder(true);
        CHECK.due("time 0", x.time(0, 0), true);
        CHECK.due("time 1000000000", x.time(0, 1000000000L), true);
        CHECK.due("time -1", x.time(0, -1), false);
        CHECK.due("time 1000000001", x.time(0, 1000000001L), false);
        CHECK.due("time 2^32", x.time(0, 1L << 32), false);
        CHECK.due("time of none", x.time(1, 5), false);
        CHECK.due("time of -1", x.time(-1, 5), false);
    }

    private static void mosts() {
        BaleTenders x = new BaleTenders();
        x.bidder(false);
        CHECK.due("most 0", x.most(0, 0), true);
        CHECK.due("most 8", x.most(0, 8), true);
        CHECK.due("most -1", x.most(0, -1), false);
        CHECK.due("most 9", x.most(0, 9), false);
        CHECK.due("most of none", x.most(1, 3), false);
        CHECK.due("most of -1", x.most(-1, 3), false);
    }

    private static void bids() {
        BaleTenders x = new BaleTenders();
        CHECK.due("bid without bidder", x.bid(0, 5), -1);
        x.bidder(true);
        x.bidder(true);
        CHECK.due("bid of -1 cents", x.bid(0, -1), -1);
        CHECK.due("bid of too many cents", x.bid(0, 100000001L), -1);
        CHECK.due("bid of 2^32 cents", x.bid(0, 1L << 32), -1);
        CHECK.due("bid of bidder 2", x.bid(2, 5), -1);
        CHECK.due("bid of bidder -1", x.bid(-1, 5), -1);
        CHECK.due("bid of 0 cents", x.bid(0, 0), 0);
        CHECK.due("bid of most cents", x.bid(1, 100000000L), 1);
        for (int b = 2; b < 12; b++) {
            CHECK.due("bid " + b, x.bid(b % 2, b), b);
        }
        CHECK.due("thirteenth bid", x.bid(0, 5), -1);
    }

    private static void bidsOnLots() {
        BaleTenders x = new BaleTenders();
        x.bidder(true);
        x.bid(0, 5);
        CHECK.due("on without a lot", x.on(0, 0), false);
        for (int l = 0; l < 8; l++) {
            x.lot(1);
            CHECK.due("on " + l, x.on(0, l), true);
            CHECK.due("on " + l + " again", x.on(0, l), false);
        }
        CHECK.due("on lot 8", x.on(0, 8), false);
        CHECK.due("on lot -1", x.on(0, -1), false);
        CHECK.due("on lot 32", x.on(0, 32), false);
        CHECK.due("on of bid 1", x.on(1, 0), false);
        CHECK.due("on of bid -1", x.on(-1, 0), false);
    }

    private static void seals() {
        BaleTenders x = new BaleTenders();
        CHECK.due("seal without bidder", x.seal(0, 0, 0), -1);
        x.bidder(true);
        x.bidder(true);
        CHECK.due("seal byte -1", x.seal(0, -1, 0), -1);
        CHECK.due("seal byte 8", x.seal(0, 8, 0), -1);
        CHECK.due("seal of -1", x.seal(0, 0, -1), -1);
        CHECK.due("seal of 256", x.seal(0, 0, 256), -1);
        CHECK.due("seal of bidder 2", x.seal(2, 0, 0), -1);
        CHECK.due("seal of bidder -1", x.seal(-1, 0, 0), -1);
        int[] order = {7, 0, 3, 1, 2, 6, 5, 4};
        for (int told = 0; told < 8; told++) {
            CHECK.due("seal byte " + order[told], x.seal(0, order[told], told * 36), told + 1);
            CHECK.due("seal byte again", x.seal(0, order[told], 255), -1);
        }
        CHECK.due("seal of another bidder", x.seal(1, 7, 255), 1);
    }

    private static void openedBiddersAreClosedToTelling() {
        BaleTenders x = Check.withLots(2);
        x.bidder(true);
        x.bidder(true);
        x.bid(0, 5);
        x.bid(1, 5);
        x.on(0, 0);
        CHECK.due("open", Check.sealAndOpen(x, 0), 1);
        CHECK.due("time of opened", x.time(0, 5), false);
        CHECK.due("most of opened", x.most(0, 5), false);
        CHECK.due("bid of opened", x.bid(0, 5), -1);
        CHECK.due("on of opened", x.on(0, 1), false);
        CHECK.due("seal of opened", x.seal(0, 0, 5), -1);
        CHECK.due("time of another", x.time(1, 5), true);
        CHECK.due("most of another", x.most(1, 5), true);
        CHECK.due("bid of another", x.bid(1, 5), 2);
        CHECK.due("on of another", x.on(1, 1), true);
        CHECK.due("seal of another", x.seal(1, 0, 5), 1);
    }
}
