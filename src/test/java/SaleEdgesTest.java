/** Promises 11 to 14: each sentence that names a boundary case, at the boundary and just beyond it. */
public final class SaleEdgesTest {
    private static final Edges E = new Edges();

    public static void main(String[] args) {
        nodes();
        bidsNotInPlayNeedNoNodes();
        whatWasFoundStaysWhenRunDoesNotFind();
        emptySale();
        fullSale();
        inPlay();
        noLotTogether();
        noMoreThanMost();
        mostCountsOneBidder();
        greatestSum();
        firstByTimes();
        firstByNumbers();
        firstByBidThatJustOneHas();
        bidsOfNoCents();
        winsOfNone();
        sums();
        boundOfNone();
        boundOfBidsInPlay();
        boundOfEachLot();
        E.end();
    }

    private static void nodes() {
        E.sentence("11: finds if 2 to the number of bids in play, 0 .. 12, is not more than nodes");
        for (int bids = 0; bids <= 12; bids++) {
            long least = 1L << bids;
            offers(bids);
            E.refused("run(" + (least - 1) + ")", "run(0)", "run(-1)", "run(min)",
                    "run(" + -least + ")");
            E.due("sum()", -1);
            E.due("run(" + least + ")", Math.min(bids, 8));
            E.refused("run(" + (least - 1) + ")");
            offers(bids);
            E.due("run(" + (least + 1) + ")", Math.min(bids, 8));
            offers(bids);
            E.due("run(4294967296)", Math.min(bids, 8));
            offers(bids);
            E.due("run(max)", Math.min(bids, 8));
        }
    }

    /** Some bids in play, the later on a lot being the dearer. */
    private static void offers(int bids) {
        E.anew();
        E.lots(8);
        E.bidders(6);
        for (int b = 0; b < bids; b++) {
            E.bid(b % 6, b + 1, b % 8);
        }
        E.open(0, 1, 2, 3, 4, 5);
    }

    private static void bidsNotInPlayNeedNoNodes() {
        E.sentence("11: bids that are not in play do not count: not qualified, not opened, no lot");
        E.lots(2);
        E.tell("bidder(true)", "bidder(false)", "bidder(true)");
        E.bid(0, 5, 0);
        E.bid(0, 5);
        E.bid(0, 5);
        E.bid(1, 5, 0);
        E.bid(1, 5, 1);
        E.bid(2, 5, 0);
        E.bid(2, 5, 1);
        E.due("run(1)", 0);
        E.open(0, 1);
        E.refused("run(1)");
        E.due("run(2)", 1);
        E.open(2);
        E.refused("run(7)", "run(2)");
        E.due("run(8)", 2);
    }

    private static void whatWasFoundStaysWhenRunDoesNotFind() {
        E.sentence("11: NONE when it is more: nothing is found then, and what was found stays");
        E.lots(2);
        E.bidders(3);
        E.bid(0, 5, 0);
        E.bid(1, 5, 0);
        E.bid(2, 9, 0);
        E.refused("run(0)");
        E.due("sum()", -1);
        E.due("proved()", 0);
        E.open(0, 1);
        E.refused("run(3)", "run(0)");
        E.due("sum()", -1);
        E.due("proved()", 0);
        E.due("run(4)", 1);
        E.refused("run(3)");
        E.due("proved()", 1);
        E.open(2);
        E.refused("run(7)", "run(4)", "run(0)");
        E.due("proved()", 0);
        E.due("sum()", 5);
        E.due("second(0)", 5);
        E.due("tie(0, 0)", 1);
        E.dueWinnersStill(0);
        E.due("run(8)", 1);
        E.due("sum()", 9);
        E.due("second(2)", 5);
        E.due("tie(0, 0)", -1);
        E.dueWinnersStill(2);
    }

    private static void emptySale() {
        E.sentence("11, terms: a sale is perhaps empty: no bid at all");
        E.due("run(1)", 0);
        E.due("sum()", 0);
        E.due("proved()", 1);
        E.refused("second(0)", "tie(0, 0)");

        E.sentence("11, terms: a sale is perhaps empty: no bid in play");
        E.rivals(5);
        E.dueWinners();
        E.due("sum()", 0);

        E.sentence("11, terms: a sale is perhaps empty: no bid that its bidder's most lets in");
        E.lots(2);
        E.bidders(1);
        E.bid(0, 5, 0, 1);
        E.tell("most(0, 1)");
        E.open(0);
        E.dueWinners();
        E.due("sum()", 0);
        E.due("bound()", 10);
        E.refused("tie(0, 0)", "second(0)");

        E.sentence("11: an empty sale stays until the next run that finds");
        E.due("run(1)", 0);
        E.rivals(5);
        E.due("run(1)", 0);
        E.open(0);
        E.due("run(2)", 1);
        E.due("sum()", 5);
    }

    private static void fullSale() {
        E.sentence("11: answers how many bids win: 8, as there are 8 lots");
        E.lots(8);
        E.bidders(6);
        for (int b = 0; b < 12; b++) {
            E.bid(b % 6, 100000000, b % 8);
        }
        E.open(0, 1, 2, 3, 4, 5);
        E.dueWinners(0, 1, 2, 3, 4, 5, 6, 7);
        E.due("sum()", 800000000);
        E.due("tie(3, 0)", 11);

        E.sentence("11: the last of 12 bids wins");
        E.lots(1);
        E.bidders(1);
        for (int b = 0; b < 12; b++) {
            E.bid(0, b, 0);
        }
        E.open(0);
        E.dueWinners(11);
        E.due("second(11)", 10);
    }

    private static void inPlay() {
        E.sentence("terms: a bid is not in play when its bidder is not qualified");
        E.lots(2);
        E.tell("bidder(false)", "bidder(true)");
        E.bid(0, 9, 0);
        E.bid(1, 5, 0);
        E.open(0, 1);
        E.dueWinners(1);

        E.sentence("terms: a bid is not in play when its bidder is not opened");
        E.rivals(9, 5);
        E.sealWhole(0);
        E.open(1);
        E.dueWinners(1);
        E.tell("open(0, 7)");
        E.dueWinners(0);

        E.sentence("terms: a bid is not in play when it has no lot");
        E.lots(1);
        E.bidders(1);
        E.bid(0, 9);
        E.bid(0, 5, 0);
        E.open(0);
        E.dueWinners(1);
        E.due("sum()", 5);
    }

    private static void noLotTogether() {
        E.sentence("terms: no two bids of a sale have a lot together: each lot, 0 .. 7");
        for (int lot = 0; lot < 8; lot++) {
            E.anew();
            E.lots(8);
            E.bidders(2);
            E.bid(0, 5, lot, (lot + 1) % 8);
            E.bid(1, 6, lot, (lot + 7) % 8);
            E.open(0, 1);
            E.dueWinners(1);
        }

        E.sentence("terms: two bids of one bidder have no lot together either");
        E.lots(1);
        E.bidders(1);
        E.bid(0, 5, 0);
        E.bid(0, 6, 0);
        E.open(0);
        E.dueWinners(1);

        E.sentence("terms: bids that stand side by side have no lot together");
        E.lots(8);
        E.bidders(2);
        E.bid(0, 5, 0, 2, 4, 6);
        E.bid(1, 6, 1, 3, 5, 7);
        E.open(0, 1);
        E.dueWinners(0, 1);
    }

    private static void noMoreThanMost() {
        E.sentence("terms: a bidder has as many lots as its most, and not more: by one bid");
        for (int most = 0; most <= 8; most++) {
            for (int lots = Math.max(1, most); lots <= Math.min(8, most + 1); lots++) {
                E.anew();
                E.lots(8);
                E.bidders(1);
                E.bid(0, 5);
                for (int lot = 0; lot < lots; lot++) {
                    E.tell("on(0, " + lot + ")");
                }
                E.tell("most(0, " + most + ")");
                E.open(0);
                E.due("run(2)", lots <= most ? 1 : 0);
            }
        }

        E.sentence("terms: a bidder has as many lots as its most, and not more: by several bids");
        for (int most = 2; most <= 6; most++) {
            E.anew();
            E.lots(8);
            E.bidders(1);
            E.bid(0, 7, 0, 1);
            E.bid(0, 9, 2, 3, 4);
            E.bid(0, 1, 5);
            E.tell("most(0, " + most + ")");
            E.open(0);
            long[] sums = {7, 9, 10, 16, 17};
            E.due("run(8)", new int[] {1, 1, 2, 2, 3}[most - 2]);
            E.due("sum()", sums[most - 2]);
        }
    }

    private static void mostCountsOneBidder() {
        E.sentence("terms: the lots of other bidders do not count against a most");
        E.lots(4);
        E.bidders(2);
        E.bid(0, 5, 0, 1);
        E.bid(1, 5, 2, 3);
        E.tell("most(0, 2)", "most(1, 2)");
        E.open(0, 1);
        E.dueWinners(0, 1);
    }

    private static void greatestSum() {
        E.sentence("terms: the best sale has the greatest sum: by one cent, more, same and less");
        for (int cents = 9; cents <= 11; cents++) {
            E.anew();
            E.lots(2);
            E.bidders(3);
            E.bid(0, 4, 0);
            E.bid(1, 6, 1);
            E.bid(2, cents, 0, 1);
            E.open(0, 1, 2);
            E.due("run(8)", cents <= 10 ? 2 : 1);
            E.due("sum()", Math.max(10, cents));
            E.due("wins(2)", cents <= 10 ? 0 : 1);
            E.due("tie(0, 0)", cents == 10 ? 2 : -1);
        }

        E.sentence("terms: the greatest sum by one cent of the greatest cents");
        E.lots(2);
        E.bidders(2);
        E.bid(0, 99999999, 0);
        E.bid(1, 100000000, 0);
        E.bid(0, 99999999, 1);
        E.open(0, 1);
        E.dueWinners(1, 2);
        E.due("sum()", 199999999);
        E.due("second(1)", 99999999);
    }

    private static void firstByTimes() {
        E.sentence("terms: of sales with one sum, the one whose bid has the lesser time");
        long[][] times = {{0, 0, 0}, {1, 0, 1}, {0, 1, 0}, {1000000000, 999999999, 1},
            {999999999, 1000000000, 0}, {1000000000, 1000000000, 0}, {1000000000, 0, 1}};
        for (long[] t : times) {
            E.anew();
            E.rivals(5, 5);
            E.tell("time(0, " + t[0] + ")", "time(1, " + t[1] + ")");
            E.open(0, 1);
            E.dueWinners((int) t[2]);
            E.due("tie(0, 0)", 1 - t[2]);
        }
    }

    private static void firstByNumbers() {
        E.sentence("terms: of sales with one sum and one time, the one whose bid has the lesser number");
        E.lots(1);
        E.bidders(3);
        E.bid(2, 5, 0);
        E.bid(1, 5, 0);
        E.bid(0, 5, 0);
        E.tell("time(0, 4)", "time(1, 4)", "time(2, 4)");
        E.open(0, 1);
        E.dueWinners(1);
        E.open(2);
        E.dueWinners(0);

        E.sentence("terms: bids stand by times first: of a bidder's bids none stands before its time");
        E.lots(2);
        E.bidders(2);
        E.bid(0, 5, 0);
        E.bid(1, 5, 1);
        E.bid(1, 5, 0);
        E.bid(0, 5, 1);
        E.tell("time(0, 1)", "most(0, 1)", "most(1, 1)");
        E.open(0, 1);
        E.dueWinners(0, 1);
        E.due("tie(0, 0)", 2);
        E.due("tie(1, 0)", 3);
    }

    private static void firstByBidThatJustOneHas() {
        E.sentence("terms: the first bid that just one has tells, not how many a sale has");
        E.lots(3);
        E.bidders(4);
        E.bid(0, 6, 0, 1, 2);
        E.bid(1, 2, 0);
        E.bid(2, 2, 1);
        E.bid(3, 2, 2);
        E.open(0, 1, 2, 3);
        E.dueWinners(0);
        E.anew();
        E.lots(3);
        E.bidders(4);
        E.bid(0, 6, 0, 1, 2);
        E.bid(1, 2, 0);
        E.bid(2, 2, 1);
        E.bid(3, 2, 2);
        E.tell("time(0, 2)", "time(1, 3)", "time(2, 1)", "time(3, 3)");
        E.open(0, 1, 2, 3);
        E.dueWinners(1, 2, 3);

        E.sentence("terms: the first bid that just one has tells, not the last, nor one they share");
        outerAgainstInner(true);
        E.dueWinners(0, 1, 4);
        E.due("tie(0, 0)", 2);
        E.due("tie(1, 0)", 3);
        outerAgainstInner(false);
        E.dueWinners(0, 1, 4);
        oddAgainstEven(true);
        E.dueWinners(0, 1, 3);
        E.due("tie(0, 0)", 2);
        E.due("tie(1, 0)", 4);
        oddAgainstEven(false);
        E.dueWinners(0, 2, 4);
        E.due("tie(0, 0)", 1);
        E.due("tie(1, 0)", 3);
    }

    /** Bids 1 and 4 have the same sum as 2 and 3; all sales with that sum have bid 0. */
    private static void outerAgainstInner(boolean timesRise) {
        fiveBidders(timesRise);
        E.bid(1, 4, 0);
        E.bid(2, 5, 0, 1);
        E.bid(3, 5, 2);
        E.bid(4, 6, 1, 2);
        E.open(0, 1, 2, 3, 4);
    }

    /** Bids 1 and 3 have the same sum as 2 and 4; all sales with that sum have bid 0. */
    private static void oddAgainstEven(boolean timesRise) {
        fiveBidders(timesRise);
        E.bid(1, 4, 0);
        E.bid(2, 5, 0, 1);
        E.bid(3, 6, 1, 2);
        E.bid(4, 5, 2);
        E.open(0, 1, 2, 3, 4);
    }

    private static void fiveBidders(boolean timesRise) {
        E.anew();
        E.lots(4);
        E.bidders(5);
        for (int b = 0; b < 5; b++) {
            E.tell("time(" + b + ", " + (timesRise ? b : 4 - b) + ")");
        }
        E.bid(0, 1, 3);
    }

    private static void bidsOfNoCents() {
        E.sentence("terms: of two sales with one sum the one with a bid of 0 cents more is first");
        E.lots(3);
        E.bidders(2);
        E.bid(0, 0, 0);
        E.bid(1, 5, 1);
        E.bid(1, 0, 2);
        E.open(0, 1);
        E.dueWinners(0, 1, 2);
        E.due("sum()", 5);
        E.due("second(0)", 0);
        E.due("second(1)", 0);
        E.due("tie(0, 0)", -1);

        E.sentence("terms: a bid of 0 cents does not keep out one of 1 cent");
        E.lots(1);
        E.bidders(1);
        E.bid(0, 0, 0);
        E.bid(0, 1, 0);
        E.open(0);
        E.dueWinners(1);
        E.due("second(1)", 0);
        E.due("tie(0, 0)", -1);
    }

    private static void winsOfNone() {
        E.sentence("12: a bid wins by the sale that was found: none before one was");
        E.rivals(5);
        E.due("wins(0)", 0);
        E.open(0);
        E.due("wins(0)", 0);
        E.due("run(1)", -1);
        E.due("wins(0)", 0);
        E.due("run(2)", 1);
        E.due("wins(0)", 1);

        E.sentence("12: a bid that there is not does not win");
        E.lots(8);
        E.bidders(1);
        for (int b = 0; b < 8; b++) {
            E.bid(0, 5, b);
        }
        E.open(0);
        E.due("run(256)", 8);
        E.refused("wins(-1)", "wins(8)", "wins(11)", "wins(12)", "wins(32)", "wins(39)", "wins(64)",
                "wins(-32)", "wins(-25)", "wins(256)", "wins(intmin)", "wins(intmax)");
        E.due("wins(0)", 1);
        E.due("wins(7)", 1);

        E.sentence("12: a bid that came since one was found does not win");
        E.lots(1);
        E.bidders(2);
        E.bid(0, 5, 0);
        E.open(0);
        E.dueWinners(0);
        E.bid(1, 9, 0);
        E.open(1);
        E.dueWinnersStill(0);
        E.dueWinners(1);
    }

    private static void sums() {
        E.sentence("13: NONE before one was found, 0 when the sale is empty");
        E.due("sum()", -1);
        E.due("run(0)", -1);
        E.due("sum()", -1);
        E.due("run(1)", 0);
        E.due("sum()", 0);

        E.sentence("13: the least sum that is not 0, and the greatest");
        E.lots(8);
        E.bidders(2);
        E.bid(0, 1, 0);
        for (int lot = 0; lot < 8; lot++) {
            E.bid(1, 100000000, lot);
        }
        E.open(0);
        E.due("run(2)", 1);
        E.due("sum()", 1);
        E.open(1);
        E.due("sum()", 1);
        E.due("run(512)", 8);
        E.due("sum()", 800000000);
        E.due("bound()", 800000000);
    }

    private static void boundOfNone() {
        E.sentence("14: 0 for a lot that no bid has, and without lots");
        E.due("bound()", 0);
        E.lots(8);
        E.due("bound()", 0);
        E.bidders(1);
        E.bid(0, 5, 7);
        E.bid(0, 9);
        E.bid(0, 0, 6);
        E.due("bound()", 0);
        E.open(0);
        E.due("bound()", 5);
    }

    private static void boundOfBidsInPlay() {
        E.sentence("14: bids that are not in play do not count: not qualified, not opened, no lot");
        E.lots(2);
        E.tell("bidder(false)", "bidder(true)", "bidder(true)");
        E.bid(0, 100, 0);
        E.bid(1, 50, 0);
        E.bid(2, 3, 0);
        E.bid(2, 9);
        E.open(0, 2);
        E.due("bound()", 3);
        E.open(1);
        E.due("bound()", 50);

        E.sentence("14: as things are: before a sale was found, and after");
        E.rivals(5, 7);
        E.open(0);
        E.due("bound()", 5);
        E.due("run(2)", 1);
        E.open(1);
        E.due("bound()", 7);
        E.due("sum()", 5);
        E.due("run(2)", -1);
        E.due("bound()", 7);
    }

    private static void boundOfEachLot() {
        E.sentence("14: for each lot the greatest, of the first bid, the last, and of equal ones");
        E.lots(8);
        E.bidders(1);
        E.bid(0, 9, 0, 1);
        E.bid(0, 8, 0, 7);
        E.bid(0, 8, 7);
        E.bid(0, 10, 1);
        E.tell("most(0, 0)");
        E.open(0);
        E.due("bound()", 9 + 10 + 8);
        E.due("run(16)", 0);
        E.due("bound()", 27);

        E.sentence("14: the greatest bound");
        E.lots(8);
        E.bidders(1);
        E.bid(0, 100000000, 0, 1, 2, 3, 4, 5, 6, 7);
        E.open(0);
        E.due("bound()", 800000000);
        E.due("run(2)", 1);
        E.due("sum()", 100000000);
    }
}
