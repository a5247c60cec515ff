/** The 512 calls of an object, up to the last of them, and an object with all that it can hold. */
public final class UseEdgesTest {
    private static final Edges E = new Edges();

    /** Each call of the face, with its answer after sold(). */
    private static final Object[][] ANSWERS = {
        {"lot(1)", 1}, {"bidder(true)", 2}, {"time(1, 5)", 1}, {"most(1, 5)", 1}, {"bid(1, 5)", 2},
        {"on(1, 0)", 1}, {"seal(1, 0, 5)", 1}, {"digest(0, 7, 0)", 245}, {"open(1, 7)", -1},
        {"run(2)", 1}, {"run(1)", -1}, {"wins(0)", 1}, {"sum()", 5}, {"bound()", 5}, {"proved()", 1},
        {"second(0)", 0}, {"tie(0, 0)", -1}, {"step(0, 1, 2, 3)", 1}, {"price(0, 1, 1)", 5},
        {"index(0, 1, 2)", 1}, {"monthly(0, 59)", 5}, {"dispute(1, 2)", 1}, {"verdict(0)", 2}};

    public static void main(String[] args) {
        lastCall();
        manyRefusals();
        manyRuns();
        allThatItHolds();
        E.end();
    }

    private static void sold() {
        E.anew();
        E.lots(1);
        E.bidders(2);
        E.bid(0, 5, 0);
        E.bid(1, 4);
        E.tell("dispute(0, 1)");
        E.open(0);
        E.due("run(2)", 1);
    }

    private static void fillCalls(String call, long want) {
        while (E.calls() < Run.MOST_CALLS - 1) {
            E.due(call, want);
        }
    }

    private static void lastCall() {
        for (Object[] row : ANSWERS) {
            E.sentence("what it is: an object is used for 512 calls, the last being " + row[0]);
            sold();
            fillCalls("sum()", 5);
            E.due((String) row[0], (int) row[1]);
        }
    }

    private static void manyRefusals() {
        String[] refused = {"lot(0)", "bid(0, 5)", "open(0, 7)", "seal(0, 0, 0)", "run(1)",
            "dispute(0, 7)", "second(1)", "tie(0, 0)", "price(0, 2, 1)", "monthly(0, 60)",
            "verdict(1)", "digest(2, 7, 0)"};
        for (String call : refused) {
            E.sentence("terms: a call that is refused as often as calls are left: " + call);
            sold();
            fillCalls(call, -1);
            E.due("proved()", 1);
        }
    }

    private static void manyRuns() {
        E.sentence("what it is: 2 to the 12 sales are looked through as often as calls are left");
        full();
        fillCalls("run(4096)", 8);
        E.due("sum()", 8 * 100000000L);
    }

    private static void full() {
        E.lots(8);
        E.bidders(6);
        for (int b = 0; b < 12; b++) {
            E.bid(b % 6, 100000000, b % 8);
        }
        E.open(0, 1, 2, 3, 4, 5);
    }

    private static void allThatItHolds() {
        E.sentence("terms: 8 lots, 6 bidders, 12 bids, 48 steps, 60 indices and 20 disputes at once");
        full();
        for (int lot = 0; lot < 8; lot++) {
            for (int s = 1; s <= 6; s++) {
                E.tell("step(" + lot + ", " + s + ", 6, " + (lot + s) + ")");
            }
        }
        for (int month = 0; month < 60; month++) {
            E.tell("index(" + month + ", 1, " + (month == 59 ? 3 : 1) + ")");
        }
        for (int d = 0; d < 20; d++) {
            E.due("dispute(" + d % 12 + ", 4)", d);
        }
        E.due("run(4095)", -1);
        E.dueWinners(0, 1, 2, 3, 4, 5, 6, 7);
        for (int bid = 0; bid < 8; bid++) {
            E.due("price(" + bid + ", 1, 6)", 100000001 + bid);
            E.due("price(" + bid + ", 1, 1)", 100000006 + bid);
            E.due("monthly(" + bid + ", 58)", 100000000);
            E.due("monthly(" + bid + ", 59)", 33333333);
            E.due("second(" + bid + ")", bid < 4 ? 100000000 : 0);
        }
        for (int d = 0; d < 20; d++) {
            E.due("verdict(" + d + ")", d % 12 < 8 ? 2 : 1);
        }
        for (int k = 0; k < 4; k++) {
            E.due("tie(" + k + ", 0)", 8 + k);
        }
        E.due("tie(4, 0)", -1);
        E.refusedNow("lot(1)", "bidder(true)", "bid(0, 5)", "on(0, 1)", "seal(0, 0, 0)",
                "open(0, 7)", "step(0, 1, 1, 5)", "index(59, 1, 1)", "dispute(0, 4)", "verdict(20)",
                "time(0, 1)", "most(0, 1)", "price(8, 1, 1)", "monthly(8, 0)", "second(8)");
        E.due("proved()", 1);
    }
}
