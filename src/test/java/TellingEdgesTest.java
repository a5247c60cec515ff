/** Promises 1 to 7: each sentence that names a boundary case, at the boundary and just beyond it. */
public final class TellingEdgesTest {
    private static final Edges E = new Edges();

    public static void main(String[] args) {
        newObject();
        numberOfLots();
        grams();
        numberOfBidders();
        firstTime();
        leastTime();
        greatestTime();
        timeOfNone();
        timeOfOpened();
        firstMost();
        leastMost();
        greatestMost();
        mostOfNone();
        mostOfOpened();
        numberOfBids();
        cents();
        bidOfNone();
        bidOfOpened();
        lotsOfBidAtFirst();
        onOfNone();
        onAlready();
        onOfOpened();
        E.end();
    }

    private static void newObject() {
        E.sentence("1: no lots");
        E.refused("step(0, 0, 1, 5)", "step(-1, 0, 1, 5)");
        E.due("lot(1)", 0);

        E.sentence("1: no bidders");
        E.refused("time(0, 0)", "most(0, 0)", "bid(0, 0)", "seal(0, 0, 0)", "digest(0, 0, 0)",
                "open(0, 0)");
        E.due("bidder(true)", 0);

        E.sentence("1: no bids");
        E.lots(1);
        E.bidders(1);
        E.refused("on(0, 0)", "dispute(0, 1)", "second(0)", "price(0, 0, 1)", "monthly(0, 0)");
        E.due("bid(0, 5)", 0);

        E.sentence("1: nothing was found");
        E.due("sum()", -1);
        E.due("proved()", 0);
        E.due("wins(0)", 0);
        E.refused("second(0)", "tie(0, 0)", "tie(0, 1)", "price(0, 0, 1)", "monthly(0, 0)",
                "verdict(0)", "run(0)");
        E.due("bound()", 0);
        E.due("proved()", 0);
    }

    private static void numberOfLots() {
        E.sentence("2, terms: lots are numbered from 0 on, NONE when there are 8");
        for (int l = 0; l < 7; l++) {
            E.due("lot(1000)", l);
        }
        E.refused("lot(0)", "step(7, 0, 1, 5)");
        E.due("lot(1000)", 7);
        E.refused("lot(1)", "lot(1000)", "lot(1000000000)", "lot(0)", "step(8, 0, 1, 5)");
        E.tell("step(7, 0, 1, 5)");
    }

    private static void grams() {
        E.sentence("2: NONE when grams are not 1 .. 1000000000");
        E.refused("lot(0)", "lot(-1)", "lot(min)", "lot(-4294967295)");
        E.due("lot(1)", 0);
        E.refused("lot(1000000001)", "lot(max)", "lot(4294967297)", "lot(-1000000000)");
        E.due("lot(1000000000)", 1);
        E.due("lot(2)", 2);
        E.due("lot(999999999)", 3);
    }

    private static void numberOfBidders() {
        E.sentence("3, terms: bidders are numbered from 0 on, NONE when there are 6");
        for (int b = 0; b < 5; b++) {
            E.due("bidder(" + (b % 2 == 0) + ")", b);
        }
        E.refused("time(5, 0)");
        E.due("bidder(true)", 5);
        E.refused("bidder(true)", "bidder(false)", "time(6, 0)");
        E.tell("time(5, 0)");

        E.sentence("3: a bidder is qualified as it was told, when there are 6 too");
        E.lots(6);
        for (int b = 0; b < 6; b++) {
            E.due("bidder(" + (b % 2 == 1) + ")", b);
            E.bid(b, 5, b);
        }
        E.refused("bidder(true)", "bidder(false)");
        E.open(0, 1, 2, 3, 4, 5);
        E.dueWinners(1, 3, 5);
    }

    private static void firstTime() {
        E.sentence("terms: a time is 0 at first");
        E.rivals(5, 5);
        E.tell("time(0, 1)");
        E.open(0, 1);
        E.dueWinners(1);
        E.anew();
        E.rivals(5, 5);
        E.tell("time(0, 0)");
        E.open(0, 1);
        E.dueWinners(0);
    }

    private static void leastTime() {
        E.sentence("4: a time is not less than 0");
        E.rivals(5, 5);
        E.tell("time(0, 0)");
        E.refused("time(1, -1)", "time(1, min)", "time(1, -1000000000)", "time(1, -4294967296)");
        E.open(0, 1);
        E.dueWinners(0);
        E.anew();
        E.rivals(5, 5);
        E.tell("time(0, 2)", "time(1, 1)");
        E.refused("time(1, -1)", "time(0, -1)", "time(0, min)");
        E.open(0, 1);
        E.dueWinners(1);
        E.anew();
        E.rivals(5, 5);
        E.tell("time(0, 1)", "time(1, 5)", "time(1, 0)");
        E.open(0, 1);
        E.dueWinners(1);
    }

    private static void greatestTime() {
        E.sentence("4: a time is not more than 1000000000");
        E.rivals(5, 5);
        E.tell("time(0, 1000000000)", "time(1, 999999999)");
        E.open(0, 1);
        E.dueWinners(1);
        E.anew();
        E.rivals(5, 5);
        E.tell("time(0, 1000000000)", "time(1, 1000000000)");
        E.refused("time(0, 1000000001)", "time(0, max)", "time(1, 4294967296)",
                "time(1, 4294967297)", "time(1, 1000000001)");
        E.open(0, 1);
        E.dueWinners(0);
    }

    private static void timeOfNone() {
        E.sentence("4: false when there is no such bidder");
        E.rivals(5, 5);
        E.tell("time(0, 3)", "time(1, 3)");
        E.refused("time(-1, 4)", "time(2, 4)", "time(intmin, 4)", "time(intmax, 4)", "time(6, 4)");
        E.due("bidder(true)", 2);
        E.tell("time(2, 4)");
        E.refused("time(3, 4)");
    }

    private static void timeOfOpened() {
        E.sentence("4: false when the bidder is opened");
        E.rivals(5, 5);
        E.tell("time(0, 3)", "time(1, 3)");
        E.open(0);
        E.refused("time(0, 3)", "time(0, 4)", "time(0, 0)", "time(0, 1000000000)");
        E.tell("time(1, 4)", "time(1, 3)");
        E.open(1);
        E.refused("time(1, 2)", "time(1, 0)");
        E.dueWinners(0);
    }

    private static void firstMost() {
        E.sentence("terms: a most is 8 at first");
        E.lots(8);
        E.bidders(1);
        E.bid(0, 5, 0, 1, 2, 3, 4, 5, 6, 7);
        E.open(0);
        E.dueWinners(0);
    }

    private static void leastMost() {
        E.sentence("5: a most is not less than 0");
        twoBidsOfOne("most(0, 0)");
        E.open(0);
        E.dueWinners();
        E.due("sum()", 0);
        twoBidsOfOne("most(0, 1)");
        E.refused("most(0, -1)", "most(0, intmin)", "most(0, -8)");
        E.open(0);
        E.dueWinners(1);
    }

    /** A bidder with two bids on a lot each, and with a most. */
    private static void twoBidsOfOne(String most) {
        E.anew();
        E.lots(2);
        E.bidders(1);
        E.bid(0, 5, 0);
        E.bid(0, 6, 1);
        E.tell(most);
    }

    private static void greatestMost() {
        E.sentence("5: a most is not more than 8");
        E.lots(8);
        E.bidders(1);
        E.bid(0, 5, 0, 1, 2, 3);
        E.bid(0, 6, 4, 5, 6, 7);
        E.tell("most(0, 7)");
        E.refused("most(0, 9)", "most(0, intmax)", "most(0, 16)", "most(0, 264)");
        E.tell("most(0, 8)");
        E.refused("most(0, 9)");
        E.open(0);
        E.dueWinners(0, 1);

        E.sentence("5: a most of 7 is less than 8 lots");
        E.lots(8);
        E.bidders(1);
        E.bid(0, 5, 0, 1, 2, 3);
        E.bid(0, 6, 4, 5, 6, 7);
        E.tell("most(0, 8)", "most(0, 7)");
        E.refused("most(0, 9)");
        E.open(0);
        E.dueWinners(1);
    }

    private static void mostOfNone() {
        E.sentence("5: false when there is no such bidder");
        twoBidsOfOne("most(0, 1)");
        E.refused("most(-1, 8)", "most(1, 8)", "most(intmin, 8)", "most(intmax, 8)", "most(6, 8)");
        E.due("bidder(true)", 1);
        E.tell("most(1, 8)");
        E.refused("most(2, 8)");
    }

    private static void mostOfOpened() {
        E.sentence("5: false when the bidder is opened");
        twoBidsOfOne("most(0, 1)");
        E.bidders(1);
        E.open(0);
        E.refused("most(0, 1)", "most(0, 0)", "most(0, 2)", "most(0, 8)");
        E.tell("most(1, 2)");
        E.dueWinners(1);
    }

    private static void numberOfBids() {
        E.sentence("6, terms: bids are numbered from 0 on, NONE when there are 12");
        E.lots(1);
        E.bidders(6);
        for (int b = 0; b < 11; b++) {
            E.due("bid(" + b % 6 + ", " + b + ")", b);
        }
        E.refused("on(11, 0)", "dispute(11, 1)");
        E.due("bid(5, 11)", 11);
        E.refused("bid(0, 5)", "bid(5, 5)", "bid(0, 0)", "bid(0, 100000000)", "on(12, 0)",
                "dispute(12, 1)");
        E.tell("on(11, 0)", "dispute(11, 1)");

        E.sentence("6: the 12 bids may all be of one bidder");
        E.bidders(2);
        for (int b = 0; b < 12; b++) {
            E.due("bid(0, 5)", b);
        }
        E.refused("bid(0, 5)", "bid(1, 5)");
        E.sealWhole(0);
        E.due("open(0, 7)", 12);
    }

    private static void cents() {
        E.sentence("6: a bid has not less than 0 cents");
        E.lots(2);
        E.bidders(1);
        E.refused("bid(0, -1)", "bid(0, min)", "bid(0, -100000000)", "bid(0, -4294967291)");
        E.bid(0, 0, 0);
        E.bid(0, 1, 1);
        E.open(0);
        E.dueWinners(0, 1);
        E.due("sum()", 1);

        E.sentence("6: a bid has not more than 100000000 cents");
        E.lots(2);
        E.bidders(1);
        E.refused("bid(0, 100000001)", "bid(0, max)", "bid(0, 4294967301)", "bid(0, 1000000000)");
        E.bid(0, 100000000, 0);
        E.bid(0, 99999999, 1);
        E.open(0);
        E.dueWinners(0, 1);
        E.due("sum()", 199999999);
    }

    private static void bidOfNone() {
        E.sentence("6: NONE when there is no such bidder");
        E.rivals(5, 5);
        E.refused("bid(-1, 5)", "bid(2, 5)", "bid(6, 5)", "bid(intmin, 5)", "bid(intmax, 5)");
        E.due("bidder(true)", 2);
        E.due("bid(2, 5)", 2);
        E.refused("bid(3, 5)");
        E.due("bid(0, 5)", 3);
    }

    private static void bidOfOpened() {
        E.sentence("6: NONE when the bidder is opened");
        E.rivals(5, 5);
        E.open(0);
        E.refused("bid(0, 5)", "bid(0, 0)", "bid(0, 100000000)");
        E.due("bid(1, 5)", 2);
        E.open(1);
        E.refused("bid(0, 5)", "bid(1, 5)");
    }

    private static void lotsOfBidAtFirst() {
        E.sentence("terms: a bid's set of lots is empty at first");
        E.lots(8);
        E.bidders(2);
        E.bid(0, 5);
        E.bid(1, 5, 7);
        E.tell("dispute(0, 3)", "dispute(1, 3)");
        E.due("verdict(0)", 1);
        E.due("verdict(1)", 0);
        E.open(0, 1);
        E.dueWinners(1);
        E.due("bound()", 5);
    }

    private static void onOfNone() {
        E.sentence("7: false when there is no such bid");
        E.rivals(5, 5);
        E.refused("on(-1, 0)", "on(2, 0)", "on(12, 0)", "on(32, 0)", "on(intmin, 0)",
                "on(intmax, 0)");
        E.due("bid(1, 9)", 2);
        E.tell("on(2, 0)");
        E.refused("on(3, 0)");

        E.sentence("7: false when there is no such lot");
        E.bidders(1);
        E.bid(0, 5);
        E.refused("on(0, 0)", "on(0, -1)");
        for (int l = 0; l < 8; l++) {
            E.refused("on(0, " + l + ")");
            E.due("lot(9)", l);
            E.tell("on(0, " + l + ")");
        }
        E.refused("on(0, 8)", "on(0, 31)", "on(0, 32)", "on(0, -1)", "on(0, intmin)",
                "on(0, intmax)");

        E.sentence("7: a lot that is none such is not one of the bid's when it comes later");
        E.bidders(1);
        E.bid(0, 5);
        E.lots(7);
        E.refused("on(0, 7)", "on(0, 8)");
        E.lots(1);
        E.tell("on(0, 7)");
    }

    private static void onAlready() {
        E.sentence("7: false when it is on it already");
        E.lots(8);
        E.bidders(2);
        E.bid(0, 5, 0, 7);
        E.bid(1, 5, 1, 7);
        E.refused("on(0, 0)", "on(0, 7)", "on(1, 1)", "on(1, 7)");
        E.tell("on(0, 1)", "on(1, 0)");
        E.refused("on(0, 1)", "on(1, 0)");
    }

    private static void onOfOpened() {
        E.sentence("7: false when the bid's bidder is opened");
        E.lots(3);
        E.bidders(2);
        E.bid(0, 5, 0);
        E.bid(0, 5);
        E.bid(1, 5);
        E.open(0);
        E.refused("on(0, 0)", "on(0, 1)", "on(1, 0)", "on(1, 1)", "on(1, 2)");
        E.tell("on(2, 1)");
        E.dueWinners(0);
    }
}
