/** Promises 15 to 17, and that what was found stays: each sentence that names a boundary case. */
public final class FoundEdgesTest {
    private static final Edges E = new Edges();

    /** Calls that are taken after found(), each by itself and all in this order. */
    private static final String[] TOLD = {
        "lot(1)", "bidder(true)", "time(2, 1)", "most(2, 1)", "bid(2, 100)", "on(5, 1)",
        "seal(2, 0, 0)", "open(1, 7)", "step(0, 1, 2, -3)", "index(0, 1, 2)", "dispute(1, 6)"};

    private static final String[] ASKED = {
        "digest(0, 7, 0)", "wins(0)", "sum()", "bound()", "proved()", "second(0)", "tie(0, 0)",
        "price(0, 1, 2)", "monthly(0, 3)", "verdict(0)", "digest(9, 7, 0)", "wins(9)", "second(9)",
        "tie(9, 0)", "price(9, 1, 2)", "monthly(9, 3)", "verdict(9)"};

    public static void main(String[] args) {
        provedBeforeOneWasFound();
        provedAfterTelling();
        provedAfterTellingTheSame();
        provedAfterRefusals();
        provedAfterAsking();
        provedAfterVerdicts();
        provedAfterRuns();
        secondOfNone();
        secondAtItsLeastAndGreatest();
        secondAsItWasFound();
        placesOfTies();
        whichOfTies();
        tiesWithTheSum();
        tiesAsFound();
        foundStays();
        E.end();
    }

    /** Bids 0 and 2 win, 1 has the same sum, 3 has less; bidder 1 is sealed and has bid 4. */
    private static void found() {
        E.anew();
        E.lots(2);
        E.bidders(3);
        E.bid(0, 10, 0);
        E.bid(0, 10, 0);
        E.bid(0, 6, 1);
        E.bid(0, 5, 1);
        E.bid(1, 50, 0, 1);
        E.bid(2, 40);
        E.open(0);
        E.sealWhole(1);
        E.due("run(16)", 2);
        E.due("proved()", 1);
    }

    private static void dueFound() {
        E.dueWinnersStill(0, 2);
        E.due("sum()", 16);
        E.due("second(0)", 10);
        E.due("second(1)", -1);
        E.due("second(2)", 5);
        E.due("tie(0, 0)", 1);
        E.due("tie(0, 1)", 0);
        E.due("tie(1, 0)", -1);
    }

    /** The same before bidder 0 is opened, so that the sale is empty. */
    private static void foundEmpty() {
        E.anew();
        E.lots(2);
        E.bidders(3);
        for (int b = 0; b < 4; b++) {
            E.bid(0, 10, b % 2);
        }
        E.bid(1, 50, 0, 1);
        E.bid(2, 40);
        E.sealWhole(1);
        E.due("run(1)", 0);
        E.due("proved()", 1);
    }

    private static void provedBeforeOneWasFound() {
        E.sentence("15: false before a sale was found");
        E.due("proved()", 0);
        E.due("run(0)", -1);
        E.due("proved()", 0);
        E.lots(1);
        E.due("proved()", 0);
        E.due("run(0)", -1);
        E.due("proved()", 0);
        E.due("run(1)", 0);
        E.due("proved()", 1);
    }

    private static void provedAfterTelling() {
        for (String call : TOLD) {
            E.sentence("15: false when something was told since, by " + Run.nameOf(call));
            found();
            E.tell(call);
            E.due("proved()", 0);
            E.due("run(0)", -1);
            E.due("proved()", 0);
            E.due("sum()", 16);
            E.due("proved()", 0);
            E.due("run(4096)", call.startsWith("open") ? 1 : 2);
            E.due("proved()", 1);
        }
    }

    private static void provedAfterTellingTheSame() {
        E.sentence("15: what was told again and not refused was told");
        found();
        E.tell("time(2, 0)");
        E.due("proved()", 0);
        found();
        E.tell("most(2, 8)");
        E.due("proved()", 0);
    }

    private static void provedAfterRefusals() {
        E.sentence("15: true when all that was told since was refused");
        found();
        E.refused("lot(0)", "time(0, 1)", "most(0, 1)", "bid(0, 1)", "on(0, 1)", "seal(0, 0, 0)",
                "open(0, 7)", "open(1, 8)", "open(2, 7)", "step(0, 2, 1, 0)", "index(0, 0, 1)",
                "dispute(0, 0)", "time(2, -1)", "most(2, 9)", "bid(2, -1)", "on(5, 2)",
                "seal(1, 0, 0)", "seal(2, 8, 0)", "step(2, 0, 1, 0)", "index(60, 1, 1)",
                "dispute(6, 1)");
        E.due("proved()", 1);
        dueFound();

        E.sentence("15: true when what was told since was refused as all is full");
        E.lots(8);
        E.bidders(6);
        for (int b = 0; b < 12; b++) {
            E.bid(b % 6, 5, b % 8);
        }
        for (int d = 0; d < 20; d++) {
            E.tell("dispute(0, 1)");
        }
        for (int s = 0; s < 6; s++) {
            E.tell("step(0, " + s + ", 6, 5)");
        }
        E.due("run(1)", 0);
        E.refused("lot(1)", "bidder(true)", "bidder(false)", "bid(0, 5)", "dispute(0, 1)",
                "step(0, 1, 1, 5)");
        E.due("proved()", 1);
    }

    private static void provedAfterAsking() {
        for (String call : ASKED) {
            E.sentence("15: true after calls that only tell: " + call);
            found();
            E.due("dispute(0, 1)", 0);
            E.due("run(16)", 2);
            E.due(call, answerOf(call));
            E.due("proved()", 1);
        }
    }

    /** Bids that win, have the same sum, have less, are not opened, and have no lot. */
    private static void provedAfterVerdicts() {
        int[][] verdicts = {{2, 2, 2, 2, 2, 2}, {0, 0, 0, 1, 0, 0}, {2, 2, 2, 2, 2, 2},
            {0, 0, 0, 1, 0, 0}, {0, 1, 0, 1, 0, 0}, {0, 1, 1, 0, 0, 0}};
        for (int bid = 0; bid < 6; bid++) {
            E.sentence("15: true after each verdict, of bid " + bid);
            found();
            for (int reason = 1; reason <= 6; reason++) {
                E.due("dispute(" + bid + ", " + reason + ")", reason - 1);
            }
            E.due("run(16)", 2);
            for (int d = 0; d < 6; d++) {
                E.due("verdict(" + d + ")", verdicts[bid][d]);
                E.due("proved()", 1);
            }
        }
    }

    private static long answerOf(String call) {
        return switch (call) {
            case "digest(0, 7, 0)" -> E.digest(0, 0);
            case "wins(0)", "proved()", "tie(0, 0)" -> 1;
            case "sum()", "bound()" -> 16;
            case "second(0)", "price(0, 1, 2)", "monthly(0, 3)" -> 10;
            case "verdict(0)" -> 2;
            case "wins(9)" -> 0;
            default -> -1;
        };
    }

    private static void provedAfterRuns() {
        E.sentence("15: a run that does not find leaves it true, or false, as it was");
        found();
        E.due("run(15)", -1);
        E.due("proved()", 1);
        E.due("run(16)", 2);
        E.due("proved()", 1);
        E.tell("lot(1)");
        E.due("run(15)", -1);
        E.due("proved()", 0);
        E.due("run(16)", 2);
        E.due("proved()", 1);
    }

    private static void secondOfNone() {
        E.sentence("16: NONE when it does not win: before one was found");
        E.rivals(5);
        E.open(0);
        E.refused("second(0)");

        E.sentence("16: NONE when it does not win: a bid that lost, and bids that there are not");
        found();
        E.refused("second(1)", "second(3)", "second(4)", "second(5)", "second(6)", "second(-1)",
                "second(11)", "second(12)", "second(32)", "second(34)", "second(-32)",
                "second(intmin)", "second(intmax)");
        E.due("second(0)", 10);
        E.due("second(2)", 5);
    }

    private static void secondAtItsLeastAndGreatest() {
        E.sentence("16: the greatest sum without the bid is that of the empty sale");
        E.rivals(100000000);
        E.open(0);
        E.due("run(2)", 1);
        E.due("second(0)", 0);

        E.sentence("16: the greatest sum without the bid is the sum that was found");
        E.rivals(100000000, 100000000);
        E.open(0, 1);
        E.due("run(4)", 1);
        E.due("second(0)", 100000000);
        E.refused("second(1)");

        E.sentence("16: the greatest sum without the bid is one cent from the sum that was found");
        E.lots(2);
        E.bidders(2);
        E.bid(0, 7, 0);
        E.bid(1, 6, 0);
        E.bid(1, 3, 1);
        E.open(0, 1);
        E.due("run(8)", 2);
        E.due("second(0)", 6);
        E.due("second(2)", 0);

        E.sentence("16: a winning bid of 0 cents pays 0");
        E.rivals(0);
        E.open(0);
        E.due("run(2)", 1);
        E.due("second(0)", 0);

        E.sentence("16: a sale without the bid keeps to the mosts, and may take other winners' lots");
        E.lots(3);
        E.bidders(2);
        E.bid(0, 10, 0);
        E.bid(0, 8, 1);
        E.bid(1, 7, 0, 2);
        E.tell("most(0, 1)");
        E.open(0, 1);
        E.due("run(8)", 2);
        E.dueWinnersStill(1, 2);
        E.due("second(1)", 8 - 15 + 10);
        E.due("second(2)", 7 - 15 + 10);
    }

    private static void secondAsItWasFound() {
        E.sentence("16: as it was found: a rival that is opened since does not count");
        E.rivals(9, 8);
        E.open(0);
        E.due("run(2)", 1);
        E.due("second(0)", 0);
        E.open(1);
        E.due("second(0)", 0);
        E.due("run(3)", -1);
        E.due("second(0)", 0);
        E.due("run(4)", 1);
        E.due("second(0)", 8);
    }

    /** Twelve bids with the same cents on one lot: the first wins, eleven are ties. */
    private static void elevenTies() {
        E.anew();
        E.lots(1);
        E.bidders(6);
        for (int b = 0; b < 12; b++) {
            E.bid(b / 2, 5, 0);
        }
        E.open(0, 1, 2, 3, 4, 5);
    }

    private static void placesOfTies() {
        E.sentence("17: the k-th bid, from 0 on, NONE when there is none such");
        elevenTies();
        E.refused("tie(0, 0)");
        E.due("run(4096)", 1);
        for (int k = 0; k < 11; k++) {
            E.due("tie(" + k + ", 0)", k + 1);
            E.due("tie(" + k + ", 1)", (k + 1) / 2);
        }
        E.refused("tie(-1, 0)", "tie(-1, 1)", "tie(11, 0)", "tie(11, 1)", "tie(12, 0)",
                "tie(intmin, 0)", "tie(intmax, 0)", "tie(32, 0)");

        E.sentence("17: no bid that does not win is in such a sale");
        E.lots(1);
        E.bidders(1);
        E.bid(0, 5, 0);
        E.bid(0, 4, 0);
        E.open(0);
        E.due("run(4)", 1);
        E.refused("tie(0, 0)", "tie(0, 1)", "tie(-1, 0)", "tie(1, 0)");
    }

    private static void whichOfTies() {
        E.sentence("17: which = 0 the bid, 1 its bidder, NONE when there is none such");
        elevenTies();
        E.due("run(4096)", 1);
        E.due("tie(4, 0)", 5);
        E.due("tie(4, 1)", 2);
        E.refused("tie(4, -1)", "tie(4, 2)", "tie(4, intmin)", "tie(4, intmax)", "tie(4, 256)",
                "tie(0, 2)", "tie(0, -1)");
    }

    private static void tiesWithTheSum() {
        E.sentence("17: with the sum that was found, not one cent less");
        E.lots(2);
        E.bidders(1);
        E.bid(0, 5, 0);
        E.bid(0, 4, 0);
        E.bid(0, 5, 0);
        E.bid(0, 9, 1);
        E.bid(0, 8, 1);
        E.open(0);
        E.due("run(32)", 2);
        E.due("tie(0, 0)", 2);
        E.due("tie(1, 0)", -1);

        E.sentence("17: a bid of 0 cents is in a sale with the sum 0");
        E.lots(1);
        E.bidders(1);
        E.bid(0, 0, 0);
        E.bid(0, 0, 0);
        E.bid(0, 0);
        E.open(0);
        E.due("run(4)", 1);
        E.due("tie(0, 0)", 1);
        E.due("tie(1, 0)", -1);

        E.sentence("17: bids that are not in play, or that a most keeps out, are in no sale");
        E.lots(2);
        E.tell("bidder(true)", "bidder(true)", "bidder(false)", "bidder(true)");
        E.bid(0, 5, 0);
        E.bid(1, 5, 0);
        E.bid(2, 5, 0);
        E.bid(3, 5, 0, 1);
        E.tell("most(3, 1)");
        E.open(0, 2, 3);
        E.due("run(4)", 1);
        E.due("tie(0, 0)", -1);
        E.open(1);
        E.due("run(8)", 1);
        E.due("tie(0, 0)", 1);
        E.due("tie(1, 0)", -1);

        E.sentence("17: by numbers, whatever the times");
        E.lots(1);
        E.bidders(3);
        E.bid(2, 5, 0);
        E.bid(1, 5, 0);
        E.bid(0, 5, 0);
        E.tell("time(2, 3)", "time(1, 1)", "time(0, 2)");
        E.open(0, 1, 2);
        E.due("run(8)", 1);
        E.due("wins(1)", 1);
        E.due("tie(0, 0)", 0);
        E.due("tie(0, 1)", 2);
        E.due("tie(1, 0)", 2);
        E.due("tie(1, 1)", 0);
    }

    private static void tiesAsFound() {
        E.sentence("17: as it was found: bids that are opened since are none such");
        E.rivals(5, 5);
        E.open(0);
        E.due("run(2)", 1);
        E.open(1);
        E.due("tie(0, 0)", -1);
        E.due("run(3)", -1);
        E.due("tie(0, 0)", -1);
        E.due("run(4)", 1);
        E.due("tie(0, 0)", 1);
    }

    private static void foundStays() {
        for (String call : TOLD) {
            E.sentence("terms: what run() found stays, whatever is told, by " + Run.nameOf(call));
            found();
            E.tell(call);
            dueFound();
            E.due("run(3)", -1);
            dueFound();
        }

        for (String call : TOLD) {
            E.sentence("terms: an empty sale that was found stays too, by " + Run.nameOf(call));
            foundEmpty();
            E.tell(call);
            E.due("sum()", 0);
            E.due("proved()", 0);
            E.dueWinnersStill();
            E.due("tie(0, 0)", -1);
            E.due("run(0)", -1);
            E.due("sum()", 0);
            E.due("run(4096)", call.startsWith("open") ? 1 : 0);
            E.due("proved()", 1);
        }

        E.sentence("terms: what run() found stays until the next run() that finds");
        found();
        for (String call : TOLD) {
            E.tell(call);
        }
        dueFound();
        E.due("run(31)", -1);
        dueFound();
        E.due("run(32)", 1);
        E.dueWinnersStill(4);
        E.due("sum()", 50);
        E.due("second(4)", 16);
        E.due("second(0)", -1);
        E.due("tie(0, 0)", -1);
    }
}
