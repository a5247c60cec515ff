/** Promises 22 and 23: disputes and verdicts. */
public final class DisputeTest {
    private static final Check CHECK = new Check();

    public static void main(String[] args) {
        disputes();
        reasonsOneByOne();
        verdictsAsThingsAre();
        mostCountsEachByItself();
        CHECK.end();
    }

    private static void disputes() {
        BaleTenders x = new BaleTenders();
        CHECK.due("dispute without bid", x.dispute(0, 1), -1);
        x.bidder(true);
        x.bid(0, 5);
        CHECK.due("bid 1", x.dispute(1, 1), -1);
        CHECK.due("bid -1", x.dispute(-1, 1), -1);
        CHECK.due("reason 0", x.dispute(0, 0), -1);
        CHECK.due("reason 7", x.dispute(0, 7), -1);
        CHECK.due("reason min", x.dispute(0, Integer.MIN_VALUE), -1);
        for (int d = 0; d < 20; d++) {
            CHECK.due("verdict before", x.verdict(d), -1);
            CHECK.due("dispute " + d, x.dispute(0, d % 6 + 1), d);
        }
        CHECK.due("dispute 20", x.dispute(0, 1), -1);
        CHECK.due("verdict 20", x.verdict(20), -1);
        CHECK.due("verdict -1", x.verdict(-1), -1);
        CHECK.due("verdict max", x.verdict(Integer.MAX_VALUE), -1);
        CHECK.due("verdict 1 of one not opened", x.verdict(1), 1);
        CHECK.due("verdict 19", x.verdict(19), 1);
    }

    /** Brings forward all six reasons for a bid; answers the verdicts as digits, reason 1 first. */
    private static long verdicts(BaleTenders x, int bid) {
        long digits = 0;
        for (int reason = 1; reason <= 6; reason++) {
            digits = digits * 10 + x.verdict(x.dispute(bid, reason));
        }
        return digits;
    }

    private static void reasonsOneByOne() {
        BaleTenders x = Check.withLots(5);
        x.bidder(true);
        x.bidder(false);
        x.bidder(true);
        Check.bidOn(x, 0, 50, 0, 1);
        Check.bidOn(x, 0, 40, 1, 2);
        Check.bidOn(x, 0, 5);
        Check.sealAndOpen(x, 0);
        Check.bidOn(x, 1, 90, 3);
        Check.sealAndOpen(x, 1);
        Check.bidOn(x, 2, 1, 4);
        x.run(4096);
        CHECK.due("winner", verdicts(x, 0), 222222);
        CHECK.due("a lot that is won", verdicts(x, 1), 100);
        CHECK.due("no lot", verdicts(x, 2), 1000);
        BaleTenders y = Check.withLots(2);
        y.bidder(false);
        y.bidder(true);
        y.bidder(true);
        Check.bidOn(y, 0, 90, 0);
        Check.bidOn(y, 1, 1, 1);
        Check.bidOn(y, 2, 3, 0);
        Check.sealAndOpen(y, 0);
        Check.sealAndOpen(y, 2);
        y.run(4096);
        CHECK.due("not qualified, and a lot that is won", verdicts(y, 0), 100100);
        CHECK.due("not opened", verdicts(y, 1), 10000);
        BaleTenders w = Check.withLots(1);
        w.bidder(false);
        Check.bidOn(w, 0, 5, 0);
        Check.sealAndOpen(w, 0);
        w.run(4096);
        CHECK.due("not qualified alone", verdicts(w, 0), 100000);
        BaleTenders z = Check.withLots(2);
        z.bidder(true);
        Check.bidOn(z, 0, 5, 0);
        Check.bidOn(z, 0, 6, 1);
        z.most(0, 1);
        Check.sealAndOpen(z, 0);
        CHECK.due("none of these, before a run", verdicts(z, 0), 1);
        z.run(4096);
        CHECK.due("more than its most", verdicts(z, 0), 10);
    }

    private static void verdictsAsThingsAre() {
        BaleTenders x = Check.withLots(2);
        x.bidder(true);
        x.bidder(true);
        Check.bidOn(x, 0, 5);
        Check.bidOn(x, 1, 9, 1);
        for (int reason = 1; reason <= 6; reason++) {
            x.dispute(0, reason);
        }
        CHECK.due("no lot yet", x.verdict(2), 1);
        x.on(0, 1);
        CHECK.due("a lot", x.verdict(2), 0);
        CHECK.due("not opened yet", x.verdict(1), 1);
        CHECK.due("not none of these", x.verdict(5), 0);
        x.most(0, 0);
        CHECK.due("most 0", x.verdict(4), 1);
        x.most(0, 1);
        CHECK.due("most 1", x.verdict(4), 0);
        Check.sealAndOpen(x, 0);
        CHECK.due("opened", x.verdict(1), 0);
        CHECK.due("none of these", x.verdict(5), 1);
        x.run(4096);
        CHECK.due("wins", x.verdict(5), 2);
        Check.sealAndOpen(x, 1);
        CHECK.due("winners as found", x.verdict(3), 2);
        x.run(4096);
        CHECK.due("a lot that another has won", x.verdict(3), 1);
        CHECK.due("not none of these now", x.verdict(5), 0);
    }

    private static void mostCountsEachByItself() {
        BaleTenders x = Check.withLots(4);
        x.bidder(true);
        x.bidder(true);
        Check.bidOn(x, 0, 50, 0, 1);
        Check.bidOn(x, 0, 9, 2);
        Check.bidOn(x, 0, 4, 0, 1);
        Check.bidOn(x, 0, 3, 0);
        Check.bidOn(x, 1, 7, 3);
        x.most(0, 4);
        Check.sealAndOpen(x, 0);
        Check.sealAndOpen(x, 1);
        x.run(4096);
        CHECK.due("2 and 3 are more than 4, though they share lots", verdicts(x, 2), 110);
        CHECK.due("1 and 3 are not more than 4", verdicts(x, 3), 100);
    }
}
