/** Promises 22 and 23: each sentence that names a boundary case, at the boundary and just beyond it. */
public final class DisputeEdgesTest {
    private static final Edges E = new Edges();

    public static void main(String[] args) {
        bidsOfDisputes();
        reasonsOfDisputes();
        numberOfDisputes();
        verdictOfNone();
        verdictOfWinner();
        notQualified();
        notOpened();
        noLot();
        lotThatIsWon();
        moreThanMost();
        mostWithWinners();
        noneOfThese();
        E.end();
    }

    /** Brings forward all six reasons for a bid, on an object without disputes. */
    private static void disputeAll(int bid) {
        for (int reason = 1; reason <= 6; reason++) {
            E.due("dispute(" + bid + ", " + reason + ")", reason - 1);
        }
    }

    /** The verdicts of what disputeAll() brought forward, reason 1 first. */
    private static void dueVerdicts(int... verdicts) {
        for (int d = 0; d < 6; d++) {
            E.due("verdict(" + d + ")", verdicts[d]);
        }
    }

    private static void bidsOfDisputes() {
        E.sentence("22: NONE when there is no such bid");
        E.refused("dispute(0, 1)");
        E.lots(1);
        E.bidders(1);
        E.bid(0, 5, 0);
        E.bid(0, 5);
        E.refused("dispute(-1, 1)", "dispute(2, 1)", "dispute(12, 1)", "dispute(32, 1)",
                "dispute(intmin, 1)", "dispute(intmax, 1)");
        E.due("dispute(0, 1)", 0);
        E.due("dispute(1, 1)", 1);
        E.bid(0, 5);
        E.due("dispute(2, 1)", 2);
        E.refused("dispute(3, 1)");

        E.sentence("22: the first and the last of 12 bids");
        E.bidders(1);
        for (int b = 0; b < 12; b++) {
            E.bid(0, 5);
        }
        E.due("dispute(11, 1)", 0);
        E.due("dispute(0, 1)", 1);
        E.refused("dispute(12, 1)", "dispute(-1, 1)");

        E.sentence("22: a bid that wins may be disputed too");
        E.rivals(5);
        E.open(0);
        E.dueWinners(0);
        E.due("dispute(0, 1)", 0);
        E.due("verdict(0)", 2);
    }

    private static void reasonsOfDisputes() {
        E.sentence("22: a reason is 1 .. 6");
        E.rivals(5);
        E.refused("dispute(0, 0)", "dispute(0, -1)", "dispute(0, intmin)", "dispute(0, -6)");
        E.due("dispute(0, 1)", 0);
        E.refused("dispute(0, 7)", "dispute(0, intmax)", "dispute(0, 32)", "dispute(0, 257)");
        E.due("dispute(0, 6)", 1);
        E.due("dispute(0, 2)", 2);
        E.due("dispute(0, 5)", 3);
    }

    private static void numberOfDisputes() {
        E.sentence("22: answers its number, from 0 on, NONE when there are 20 disputes");
        E.rivals(5);
        for (int d = 0; d < 19; d++) {
            E.due("dispute(0, " + (d % 6 + 1) + ")", d);
        }
        E.refused("verdict(19)", "dispute(0, 7)");
        E.due("dispute(0, 2)", 19);
        E.refused("dispute(0, 1)", "dispute(0, 2)", "dispute(0, 6)", "verdict(20)");
        for (int d = 0; d < 19; d++) {
            E.due("verdict(" + d + ")", d % 6 + 1 == 2 ? 1 : 0);
        }
        E.due("verdict(19)", 1);

        E.sentence("22: the same dispute again is one more");
        E.bidders(1);
        E.bid(0, 5);
        E.due("dispute(0, 3)", 0);
        E.due("dispute(0, 3)", 1);
        E.due("verdict(1)", 1);
    }

    private static void verdictOfNone() {
        E.sentence("23: NONE when there is no such dispute");
        E.refused("verdict(0)", "verdict(-1)");
        E.bidders(1);
        E.bid(0, 5);
        E.refused("verdict(0)");
        E.due("dispute(0, 3)", 0);
        E.refused("verdict(1)", "verdict(-1)", "verdict(20)", "verdict(19)", "verdict(32)",
                "verdict(intmin)", "verdict(intmax)");
        E.due("verdict(0)", 1);
    }

    private static void verdictOfWinner() {
        E.sentence("23: 2 when the bid wins, whatever the reason, even one that would hold");
        E.lots(8);
        E.bidders(1);
        E.bid(0, 5, 0, 1, 2, 3, 4);
        disputeAll(0);
        E.open(0);
        dueVerdicts(0, 0, 0, 0, 0, 1);
        E.dueWinners(0);
        dueVerdicts(2, 2, 2, 2, 2, 2);

        E.sentence("23: winners as found: 2 until the next run that finds");
        E.rivals(5, 9);
        E.open(0);
        E.dueWinners(0);
        disputeAll(0);
        E.open(1);
        dueVerdicts(2, 2, 2, 2, 2, 2);
        E.due("run(3)", -1);
        dueVerdicts(2, 2, 2, 2, 2, 2);
        E.due("run(4)", 1);
        dueVerdicts(0, 0, 0, 1, 0, 0);
    }

    private static void notQualified() {
        E.sentence("23: reason 1 holds when its bidder is not qualified, and not when it is");
        E.lots(1);
        E.tell("bidder(false)", "bidder(true)");
        E.bid(0, 5, 0);
        E.bid(1, 5, 0);
        E.open(0, 1);
        E.tell("dispute(0, 1)", "dispute(1, 1)");
        E.due("verdict(0)", 1);
        E.due("verdict(1)", 0);
        E.dueWinners(1);
        E.due("verdict(0)", 1);
        E.due("verdict(1)", 2);
    }

    private static void notOpened() {
        E.sentence("23: reason 2 holds until its bidder is opened");
        E.rivals(5, 5);
        disputeAll(0);
        dueVerdicts(0, 1, 0, 0, 0, 0);
        E.sealWhole(0);
        E.open(1);
        dueVerdicts(0, 1, 0, 0, 0, 0);
        E.refused("open(0, 8)");
        dueVerdicts(0, 1, 0, 0, 0, 0);
        E.tell("open(0, 7)");
        dueVerdicts(0, 0, 0, 0, 0, 1);
    }

    private static void noLot() {
        E.sentence("23: reason 3 holds when it has no lot, and not when it has one");
        E.lots(8);
        E.bidders(1);
        E.bid(0, 5);
        disputeAll(0);
        dueVerdicts(0, 1, 1, 0, 0, 0);
        E.tell("on(0, 7)");
        dueVerdicts(0, 1, 0, 0, 0, 0);
        E.anew();
        E.lots(1);
        E.bidders(1);
        E.bid(0, 5);
        E.bid(0, 5, 0);
        E.open(0);
        disputeAll(0);
        E.dueWinners(1);
        dueVerdicts(0, 0, 1, 0, 0, 0);
    }

    private static void lotThatIsWon() {
        E.sentence("23: reason 4 holds when it has a lot that a bid that wins has: each lot, 0 .. 7");
        for (int lot = 0; lot < 8; lot++) {
            E.anew();
            E.lots(8);
            E.bidders(3);
            E.bid(0, 5, lot);
            E.bid(1, 9, lot, (lot + 1) % 8);
            E.bid(2, 9, (lot + 2) % 8);
            disputeAll(0);
            E.open(0, 1, 2);
            dueVerdicts(0, 0, 0, 0, 0, 1);
            E.dueWinners(1, 2);
            dueVerdicts(0, 0, 0, 1, 0, 0);
        }

        E.sentence("23: reason 4 does not hold for lots beside those that were won, or not won");
        E.lots(8);
        E.bidders(3);
        E.bid(0, 5, 3);
        E.bid(1, 9, 2, 4);
        E.bid(2, 1, 2, 3);
        E.open(1, 2);
        disputeAll(0);
        E.dueWinners(1);
        dueVerdicts(0, 1, 0, 0, 0, 0);
        E.open(0);
        dueVerdicts(0, 0, 0, 0, 0, 1);
        E.dueWinners(0, 1);
        dueVerdicts(2, 2, 2, 2, 2, 2);

        E.sentence("23: reason 4 holds for a lot that its own bidder wins");
        E.lots(1);
        E.bidders(1);
        E.bid(0, 5, 0);
        E.bid(0, 6, 0);
        disputeAll(0);
        E.open(0);
        E.dueWinners(1);
        dueVerdicts(0, 0, 0, 1, 0, 0);
    }

    private static void moreThanMost() {
        E.sentence("23: reason 5 holds when its lots alone are more than its most, 0 .. 8");
        for (int most = 0; most <= 8; most++) {
            E.anew();
            E.lots(8);
            E.bidders(1);
            E.bid(0, 5);
            E.tell("most(0, " + most + ")", "dispute(0, 5)");
            for (int lots = 0; lots <= 8; lots++) {
                E.due("verdict(0)", lots > most ? 1 : 0);
                if (lots < 8) {
                    E.tell("on(0, " + lots + ")");
                }
            }
        }

        E.sentence("23: reason 5 goes by the most as it is");
        E.lots(2);
        E.bidders(1);
        E.bid(0, 5, 0, 1);
        E.tell("dispute(0, 5)");
        E.due("verdict(0)", 0);
        E.tell("most(0, 1)");
        E.due("verdict(0)", 1);
        E.tell("most(0, 2)");
        E.due("verdict(0)", 0);
    }

    private static void mostWithWinners() {
        E.sentence("23: reason 5: its lots and those its bidder wins together are the most, or more");
        for (int most = 4; most <= 6; most++) {
            winnersOfOne(most);
            disputeAll(3);
            dueVerdicts(0, 0, 0, 1, 5 > most ? 1 : 0, 0);
        }

        E.sentence("23: reason 5: each by itself, so that a lot of both counts twice");
        winnersOfOne(4);
        disputeAll(4);
        dueVerdicts(0, 0, 0, 1, 0, 0);
        winnersOfOne(3);
        disputeAll(4);
        dueVerdicts(0, 0, 0, 1, 1, 0);

        E.sentence("23: reason 5: a bid without a lot, and as many won as the most");
        winnersOfOne(3);
        disputeAll(5);
        dueVerdicts(0, 0, 1, 0, 0, 0);

        E.sentence("23: reason 5: 8 lots and one that its bidder wins are more than 8");
        E.lots(8);
        E.bidders(1);
        E.bid(0, 1, 0, 1, 2, 3, 4, 5, 6, 7);
        E.bid(0, 5, 0);
        E.open(0);
        disputeAll(0);
        dueVerdicts(0, 0, 0, 0, 0, 1);
        E.dueWinners(1);
        dueVerdicts(0, 0, 0, 1, 1, 0);
    }

    /** Bidder 0 wins three lots by two bids, bidder 1 wins one lot; bids 3, 4 and 5 lose. */
    private static void winnersOfOne(int most) {
        E.anew();
        E.lots(8);
        E.bidders(2);
        E.bid(0, 50, 0, 1);
        E.bid(0, 40, 2);
        E.bid(1, 30, 3);
        E.bid(0, 1, 3, 4);
        E.bid(0, 1, 0);
        E.bid(0, 1);
        E.tell("most(0, " + most + ")");
        E.open(0, 1);
        E.dueWinners(0, 1, 2);
    }

    private static void noneOfThese() {
        E.sentence("23: reason 6 holds when none of the others does");
        E.lots(2);
        E.bidders(1);
        E.bid(0, 5, 0);
        E.open(0);
        disputeAll(0);
        dueVerdicts(0, 0, 0, 0, 0, 1);
        E.due("run(1)", -1);
        dueVerdicts(0, 0, 0, 0, 0, 1);

        E.sentence("23: reason 6 does not hold when 1 alone does");
        E.lots(1);
        E.tell("bidder(false)");
        E.bid(0, 5, 0);
        E.open(0);
        disputeAll(0);
        dueVerdicts(1, 0, 0, 0, 0, 0);

        E.sentence("23: reason 6 does not hold when 2 alone does");
        E.rivals(5);
        disputeAll(0);
        dueVerdicts(0, 1, 0, 0, 0, 0);

        E.sentence("23: reason 6 does not hold when 3 alone does");
        E.bidders(1);
        E.bid(0, 5);
        E.open(0);
        disputeAll(0);
        dueVerdicts(0, 0, 1, 0, 0, 0);

        E.sentence("23: reason 6 does not hold when 4 alone does");
        E.rivals(5, 6);
        E.open(0, 1);
        disputeAll(0);
        E.dueWinners(1);
        dueVerdicts(0, 0, 0, 1, 0, 0);

        E.sentence("23: reason 6 does not hold when 5 alone does");
        E.rivals(5);
        E.tell("most(0, 0)");
        E.open(0);
        disputeAll(0);
        E.dueWinners();
        dueVerdicts(0, 0, 0, 0, 1, 0);

        E.sentence("23: several reasons may hold at once, each by itself");
        E.lots(1);
        E.tell("bidder(false)", "bidder(true)");
        E.bid(0, 5, 0);
        E.bid(1, 5, 0);
        E.tell("most(0, 0)");
        E.open(1);
        disputeAll(0);
        E.dueWinners(1);
        dueVerdicts(1, 1, 0, 1, 1, 0);
    }
}
