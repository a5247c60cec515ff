/** Promises 11 to 17: the best sale, its sum and bound, second prices and ties. */
public final class SaleTest {
    private static final Check CHECK = new Check();

    public static void main(String[] args) {
        onlyBidsInPlay();
        noLotTwice();
        noMoreThanMost();
        timesSettleTies();
        numbersSettleTies();
        firstDifferenceSettlesTies();
        bidsOfNoCentsWin();
        nodes();
        foundStays();
        bounds();
        proofs();
        seconds();
        ties();
        fullObject();
        CHECK.end();
    }

    private static BaleTenders withBidders(int lots, int bidders) {
        BaleTenders x = Check.withLots(lots);
        for (int b = 0; b < bidders; b++) {
            x.bidder(true);
        }
        return x;
    }

    private static void openAll(BaleTenders x, int bidders) {
        for (int b = 0; b < bidders; b++) {
            Check.sealAndOpen(x, b);
        }
    }

    private static void dueWinners(String what, BaleTenders x, int... winners) {
        int set = 0;
        for (int winner : winners) {
            set |= 1 << winner;
        }
        for (int bid = 0; bid < 12; bid++) {
            CHECK.due(what + ": wins(" + bid + ")", x.wins(bid), (set >> bid & 1) != 0);
        }
    }

    private static void onlyBidsInPlay() {
        BaleTenders x = withBidders(4, 2);
        x.bidder(false);
        Check.bidOn(x, 0, 10, 0);
        Check.bidOn(x, 1, 20, 1);
        Check.bidOn(x, 2, 40, 2);
        Check.bidOn(x, 0, 80);
        CHECK.due("run before opening", x.run(1), 0);
        CHECK.due("sum before opening", x.sum(), 0);
        Check.sealAndOpen(x, 0);
        Check.sealAndOpen(x, 2);
        CHECK.due("run", x.run(4096), 1);
        CHECK.due("sum", x.sum(), 10);
        dueWinners("only one in play", x, 0);
        int[] none = {-1, 12, 31, 32, 64, Integer.MIN_VALUE, Integer.MAX_VALUE};
        for (int bid : none) {
            CHECK.due("wins(" + bid + ")", x.wins(bid), false);
            CHECK.due("second(" + bid + ")", x.second(bid), -1);
        }
    }

    private static void noLotTwice() {
        BaleTenders x = withBidders(3, 3);
        Check.bidOn(x, 0, 10, 0, 1);
        Check.bidOn(x, 1, 11, 1, 2);
        Check.bidOn(x, 2, 12, 2, 0);
        openAll(x, 3);
        CHECK.due("run", x.run(8), 1);
        CHECK.due("sum", x.sum(), 12);
        dueWinners("one of three", x, 2);
    }

    private static void noMoreThanMost() {
        BaleTenders x = withBidders(4, 2);
        Check.bidOn(x, 0, 50, 0, 1);
        Check.bidOn(x, 0, 40, 2);
        Check.bidOn(x, 0, 30, 3);
        Check.bidOn(x, 1, 1, 2, 3);
        x.most(0, 2);
        x.most(1, 1);
        openAll(x, 2);
        CHECK.due("run with most 2", x.run(16), 2);
        CHECK.due("sum with most 2", x.sum(), 70);
        dueWinners("most 2", x, 1, 2);
        BaleTenders y = withBidders(1, 1);
        Check.bidOn(y, 0, 5, 0);
        y.most(0, 0);
        openAll(y, 1);
        CHECK.due("run with most 0", y.run(2), 0);
        CHECK.due("sum with most 0", y.sum(), 0);
    }

    private static void timesSettleTies() {
        BaleTenders x = withBidders(1, 3);
        Check.bidOn(x, 0, 5, 0);
        Check.bidOn(x, 1, 5, 0);
        Check.bidOn(x, 2, 5, 0);
        x.time(0, 30);
        x.time(1, 20);
        x.time(2, 10);
        openAll(x, 2);
        x.run(4);
        dueWinners("time 20 before 30", x, 1);
        Check.sealAndOpen(x, 2);
        x.run(8);
        dueWinners("time 10 before 20", x, 2);
    }

    private static void numbersSettleTies() {
        BaleTenders x = withBidders(1, 2);
        Check.bidOn(x, 1, 5, 0);
        Check.bidOn(x, 0, 5, 0);
        openAll(x, 2);
        x.run(4);
        dueWinners("bid 0 before bid 1, not bidder 0 before bidder 1", x, 0);
    }

    private static void firstDifferenceSettlesTies() {
        BaleTenders x = withBidders(4, 4);
        Check.bidOn(x, 0, 6, 0, 1, 2);
        Check.bidOn(x, 1, 2, 0);
        Check.bidOn(x, 2, 2, 1);
        Check.bidOn(x, 3, 2, 2);
        openAll(x, 4);
        CHECK.due("run", x.run(16), 1);
        dueWinners("fewer bids, but the first", x, 0);
        BaleTenders y = withBidders(4, 4);
        Check.bidOn(y, 0, 6, 0, 1, 2);
        Check.bidOn(y, 1, 2, 0);
        Check.bidOn(y, 2, 2, 1);
        Check.bidOn(y, 3, 2, 2);
        y.time(0, 9);
        y.time(1, 10);
        y.time(2, 8);
        y.time(3, 10);
        openAll(y, 4);
        CHECK.due("run", y.run(16), 3);
        dueWinners("the first by time is bid 2", y, 1, 2, 3);
    }

    private static void bidsOfNoCentsWin() {
        BaleTenders x = withBidders(2, 1);
        Check.bidOn(x, 0, 0, 0);
        Check.bidOn(x, 0, 0, 0);
        Check.bidOn(x, 0, 0, 1);
        openAll(x, 1);
        CHECK.due("run", x.run(8), 2);
        CHECK.due("sum", x.sum(), 0);
        CHECK.due("proved", x.proved(), true);
        dueWinners("no cents", x, 0, 2);
        CHECK.due("second", x.second(0), 0);
        CHECK.due("tie", x.tie(0, 0), 1);
    }

    private static void nodes() {
        BaleTenders x = withBidders(3, 1);
        CHECK.due("run(0)", x.run(0), -1);
        CHECK.due("run(-1)", x.run(-1), -1);
        CHECK.due("nothing found", x.sum(), -1);
        CHECK.due("nothing proved", x.proved(), false);
        Check.bidOn(x, 0, 1, 0);
        Check.bidOn(x, 0, 2, 1);
        Check.bidOn(x, 0, 3, 2);
        Check.bidOn(x, 0, 3);
        CHECK.due("run(1) with none in play", x.run(1), 0);
        openAll(x, 1);
        CHECK.due("run(7)", x.run(7), -1);
        CHECK.due("run(min)", x.run(Long.MIN_VALUE), -1);
        CHECK.due("run(8)", x.run(8), 3);
        CHECK.due("run(max)", x.run(Long.MAX_VALUE), 3);
    }

    private static void foundStays() {
        BaleTenders x = withBidders(2, 2);
        Check.bidOn(x, 0, 10, 0);
        Check.bidOn(x, 1, 30, 0);
        Check.sealAndOpen(x, 0);
        CHECK.due("run", x.run(2), 1);
        Check.sealAndOpen(x, 1);
        CHECK.due("run that finds nothing", x.run(3), -1);
        CHECK.due("sum stays", x.sum(), 10);
        CHECK.due("second stays", x.second(0), 0);
        CHECK.due("tie stays", x.tie(0, 0), -1);
        dueWinners("winners stay", x, 0);
        CHECK.due("bound is as things are", x.bound(), 30);
        CHECK.due("run that finds", x.run(4), 1);
        CHECK.due("sum", x.sum(), 30);
        CHECK.due("second", x.second(1), 10);
        dueWinners("new winners", x, 1);
    }

    private static void bounds() {
        BaleTenders x = withBidders(3, 2);
        x.bidder(false);
        Check.bidOn(x, 0, 10, 0, 1);
        Check.bidOn(x, 0, 4, 1);
        Check.bidOn(x, 1, 25, 1);
        Check.bidOn(x, 2, 100, 0, 2);
        x.most(1, 0);
        CHECK.due("bound of none", x.bound(), 0);
        Check.sealAndOpen(x, 2);
        CHECK.due("bound of one not qualified", x.bound(), 0);
        Check.sealAndOpen(x, 0);
        CHECK.due("bound of one", x.bound(), 20);
        Check.sealAndOpen(x, 1);
        CHECK.due("bound of two, most left out", x.bound(), 35);
        BaleTenders y = withBidders(8, 1);
        Check.bidOn(y, 0, 100000000L, 0, 1, 2, 3, 4, 5, 6, 7);
        Check.sealAndOpen(y, 0);
        CHECK.due("greatest bound", y.bound(), 800000000L);
    }

    private static void proofs() {
        BaleTenders x = withBidders(1, 2);
        Check.bidOn(x, 0, 5, 0);
        CHECK.due("nothing found", x.proved(), false);
        x.run(1);
        CHECK.due("found", x.proved(), true);
        refuse(x);
        CHECK.due("refused calls", x.proved(), true);
        x.run(0);
        CHECK.due("run that finds nothing", x.proved(), true);
        for (int told = 0; told < 11; told++) {
            x.run(4096);
            CHECK.due("proved before telling " + told, x.proved(), true);
            tell(x, told);
            CHECK.due("proved after telling " + told, x.proved(), false);
            x.run(0);
            CHECK.due("and after a run that finds nothing", x.proved(), false);
        }
        x.run(4096);
        x.digest(0, 1, 0);
        x.wins(0);
        x.sum();
        x.bound();
        x.second(0);
        x.tie(0, 0);
        x.price(0, 1, 2);
        x.monthly(0, 0);
        x.verdict(0);
        CHECK.due("calls that only tell", x.proved(), true);
    }

    private static void refuse(BaleTenders x) {
        x.lot(0);
        x.time(0, -1);
        x.most(0, 9);
        x.bid(0, -1);
        x.on(0, 0);
        x.seal(0, 8, 0);
        x.open(0, 0);
        x.step(0, 2, 1, 0);
        x.index(60, 1, 1);
        x.dispute(0, 7);
    }

    private static void tell(BaleTenders x, int what) {
        switch (what) {
            case 0 -> CHECK.due("lot", x.lot(1), 1);
            case 1 -> CHECK.due("bidder", x.bidder(false), 2);
            case 2 -> CHECK.due("time", x.time(0, 0), true);
            case 3 -> CHECK.due("most", x.most(0, 8), true);
            case 4 -> CHECK.due("bid", x.bid(1, 5), 1);
            case 5 -> CHECK.due("on", x.on(1, 0), true);
            case 6 -> CHECK.due("seal", x.seal(1, 0, 0), 1);
            case 7 -> {
                for (int i = 0; i < 8; i++) {
                    x.seal(0, i, x.digest(0, 5, i));
                }
                x.run(4096);
                CHECK.due("proved before open", x.proved(), true);
                CHECK.due("open", x.open(0, 5), 1);
            }
            case 8 -> CHECK.due("step", x.step(0, 1, 2, 3), true);
            case 9 -> CHECK.due("index", x.index(0, 1, 1), true);
            default -> CHECK.due("dispute", x.dispute(0, 1), 0);
        }
    }

    private static void seconds() {
        BaleTenders x = withBidders(3, 4);
        Check.bidOn(x, 0, 100, 0, 1);
        Check.bidOn(x, 1, 60, 0);
        Check.bidOn(x, 2, 70, 1);
        Check.bidOn(x, 3, 9, 2);
        openAll(x, 3);
        CHECK.due("second before run", x.second(1), -1);
        x.run(8);
        CHECK.due("second of a loser", x.second(0), -1);
        CHECK.due("second of 60", x.second(1), 60 - 130 + 100);
        CHECK.due("second of 70", x.second(2), 70 - 130 + 100);
        Check.sealAndOpen(x, 3);
        CHECK.due("second of one not found yet", x.second(3), -1);
        CHECK.due("second as it was found", x.second(1), 30);
        x.run(16);
        CHECK.due("second without another", x.second(3), 0);
        BaleTenders y = withBidders(1, 2);
        Check.bidOn(y, 0, 5, 0);
        Check.bidOn(y, 1, 5, 0);
        openAll(y, 2);
        y.run(4);
        CHECK.due("second in a tie", y.second(0), 5);
    }

    private static void ties() {
        BaleTenders x = withBidders(4, 4);
        Check.bidOn(x, 3, 10, 0);
        Check.bidOn(x, 2, 10, 0);
        Check.bidOn(x, 1, 9, 0);
        Check.bidOn(x, 3, 10, 0);
        Check.bidOn(x, 0, 0, 1);
        Check.bidOn(x, 2, 0, 1);
        CHECK.due("tie before run", x.tie(0, 0), -1);
        openAll(x, 4);
        x.run(64);
        dueWinners("of ties", x, 0, 4);
        int[] bids = {1, 3, 5};
        int[] bidders = {2, 3, 2};
        for (int k = 0; k < 3; k++) {
            CHECK.due("tie(" + k + ", 0)", x.tie(k, 0), bids[k]);
            CHECK.due("tie(" + k + ", 1)", x.tie(k, 1), bidders[k]);
        }
        CHECK.due("tie(3, 0)", x.tie(3, 0), -1);
        CHECK.due("tie(-1, 0)", x.tie(-1, 0), -1);
        CHECK.due("tie(min, 1)", x.tie(Integer.MIN_VALUE, 1), -1);
        CHECK.due("tie(max, 1)", x.tie(Integer.MAX_VALUE, 1), -1);
        CHECK.due("tie(0, 2)", x.tie(0, 2), -1);
        CHECK.due("tie(0, -1)", x.tie(0, -1), -1);
        x.bidder(true);
        Check.bidOn(x, 4, 10, 0);
        Check.sealAndOpen(x, 4);
        CHECK.due("tie as it was found", x.tie(3, 0), -1);
        x.run(4096);
        CHECK.due("tie found anew", x.tie(3, 0), 6);
        CHECK.due("its bidder", x.tie(3, 1), 4);
    }

    /** The dearest run: as many sales as twelve bids on eight lots can make. */
    private static void fullObject() {
        BaleTenders x = withBidders(8, 6);
        for (int b = 0; b < 12; b++) {
            Check.bidOn(x, b % 6, 100000000L, b % 8);
        }
        openAll(x, 6);
        for (int again = 0; again < 300; again++) {
            CHECK.due("run", x.run(4096), 8);
        }
        CHECK.due("sum", x.sum(), 800000000L);
        dueWinners("full object", x, 0, 1, 2, 3, 4, 5, 6, 7);
        CHECK.due("second of one with a rival", x.second(3), 100000000L);
        CHECK.due("second of one without", x.second(4), 0);
        CHECK.due("last tie", x.tie(3, 0), 11);
        CHECK.due("no more ties", x.tie(4, 0), -1);
    }
}
