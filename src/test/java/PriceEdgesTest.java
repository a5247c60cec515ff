/** Promises 18 to 21: each sentence that names a boundary case, at the boundary and just beyond it. */
public final class PriceEdgesTest {
    private static final Edges E = new Edges();

    public static void main(String[] args) {
        lotsOfSteps();
        sharesOfSteps();
        centsOfSteps();
        sharesRise();
        numberOfSteps();
        stepThatActs();
        priceOfNone();
        shareOfPrice();
        priceHeldAtZero();
        pricesAtTheirGreatest();
        priceAsStepsAre();
        monthsOfIndices();
        partsOfIndices();
        indexToldAlready();
        monthlyOfNone();
        monthsOfMonthly();
        monthlyGoesUpToItsMonth();
        monthlyGoesDown();
        monthlyHeld();
        E.end();
    }

    /** Bid 0, on lots 0 and 1, wins; bid 1, on lot 1, loses; bid 2 has no lot. */
    private static void sold(long cents) {
        E.anew();
        E.lots(3);
        E.bidders(1);
        E.bid(0, cents, 0, 1);
        E.bid(0, 0, 1);
        E.bid(0, 5);
        E.open(0);
        E.due("run(4)", 1);
        E.due("wins(0)", 1);
    }

    private static void lotsOfSteps() {
        E.sentence("18: false when there is no such lot");
        sold(1000);
        E.refused("step(-1, 1, 2, 5)", "step(3, 1, 2, 5)", "step(8, 1, 2, 5)", "step(32, 1, 2, 5)",
                "step(intmin, 1, 2, 5)", "step(intmax, 1, 2, 5)");
        E.tell("step(0, 1, 2, 5)", "step(2, 1, 2, 5)");
        E.lots(5);
        E.refused("step(8, 1, 2, 5)");
        E.tell("step(7, 1, 2, 5)");
    }

    private static void sharesOfSteps() {
        E.sentence("18: below of 1 .. 1000");
        sold(1000);
        E.refused("step(0, 0, 0, 5)", "step(0, 0, -1, 5)", "step(0, -1, -1, 5)", "step(0, 1, 0, 5)",
                "step(0, 0, min, 5)", "step(0, min, min, 5)");
        E.tell("step(0, 0, 1, 5)");
        E.refused("step(0, 1, 1001, 5)", "step(0, 1001, 1001, 5)", "step(0, max, max, 5)",
                "step(0, 1, max, 5)", "step(0, 1, 4294967298, 5)", "step(0, 1, 4294967297, 5)");
        E.tell("step(0, 1, 1000, 7)");
        E.due("price(0, 0, 1)", 1005);
        E.due("price(0, 1, 1000)", 1007);

        E.sentence("18: above of 0 .. below");
        sold(1000);
        E.refused("step(0, -1, 1, 5)", "step(0, -1, 1000, 5)", "step(0, 2, 1, 5)",
                "step(0, 1001, 1000, 5)", "step(0, min, 1, 5)", "step(0, max, 1000, 5)",
                "step(0, 4294967296, 1, 5)", "step(0, 8, 7, 5)");
        E.tell("step(0, 0, 7, 5)", "step(0, 6, 7, 6)", "step(0, 7, 7, 7)");
        E.due("price(0, 0, 1)", 1005);
        E.due("price(0, 6, 7)", 1006);
        E.due("price(0, 1, 1)", 1007);
        sold(1000);
        E.tell("step(0, 0, 1000, 5)", "step(0, 999, 1000, 6)", "step(0, 1000, 1000, 7)",
                "step(1, 0, 1, 50)", "step(1, 1, 1, 70)");
        E.due("price(0, 0, 1)", 1055);
        E.due("price(0, 999, 1000)", 1056);
        E.due("price(0, 1, 1)", 1077);
    }

    private static void centsOfSteps() {
        E.sentence("18: cents of -1000000 .. 1000000");
        sold(5000000);
        E.refused("step(0, 1, 2, -1000001)", "step(0, 1, 2, 1000001)", "step(0, 1, 2, min)",
                "step(0, 1, 2, max)", "step(0, 1, 2, 4294967296)", "step(0, 1, 2, -4294967296)");
        E.tell("step(0, 1, 4, -1000000)", "step(0, 1, 2, 1000000)", "step(0, 3, 4, 0)",
                "step(0, 1, 1, -1)");
        E.due("price(0, 1, 4)", 4000000);
        E.due("price(0, 1, 2)", 6000000);
        E.due("price(0, 3, 4)", 5000000);
        E.due("price(0, 1, 1)", 4999999);
    }

    private static void sharesRise() {
        E.sentence("18: false when the share is not greater than that of the lot's step before");
        sold(1000);
        E.tell("step(0, 1, 2, 5)");
        E.refused("step(0, 1, 2, 6)", "step(0, 1, 2, 5)", "step(0, 2, 4, 6)", "step(0, 500, 1000, 6)",
                "step(0, 499, 1000, 6)", "step(0, 499, 999, 6)", "step(0, 0, 1, 6)",
                "step(0, 1, 3, 6)", "step(0, 498, 997, 6)");
        E.tell("step(0, 500, 999, 7)");
        E.refused("step(0, 500, 999, 8)", "step(0, 500, 1000, 8)", "step(0, 1, 2, 8)");
        E.tell("step(0, 499, 997, 9)");
        E.due("price(0, 1, 2)", 1005);
        E.due("price(0, 500, 999)", 1007);
        E.due("price(0, 499, 997)", 1009);

        E.sentence("18: a share of 0 is greater than none, and not greater than itself");
        sold(1000);
        E.tell("step(0, 0, 1, 5)");
        E.refused("step(0, 0, 1, 5)", "step(0, 0, 1000, 5)");
        E.tell("step(0, 1, 1000, 6)");

        E.sentence("18: nothing is greater than a share of 1");
        sold(1000);
        E.tell("step(0, 999, 1000, 5)", "step(0, 1, 1, 5)");
        E.refused("step(0, 1, 1, 5)", "step(0, 1000, 1000, 5)", "step(0, 999, 1000, 5)");

        E.sentence("18: the step before is the last that was taken, of the same lot");
        sold(1000);
        E.tell("step(0, 1, 2, 5)", "step(0, 3, 4, 5)");
        E.refused("step(0, 2, 3, 5)", "step(0, 9, 10, 1000001)", "step(0, 1, 1, -1000001)");
        E.tell("step(1, 1, 3, 5)", "step(0, 4, 5, 5)", "step(2, 0, 1, 5)");
    }

    private static void numberOfSteps() {
        E.sentence("18: false when the lot has 6 steps");
        sold(1000);
        for (int s = 1; s <= 5; s++) {
            E.tell("step(0, " + s + ", 8, " + s + ")");
        }
        E.refused("step(0, 5, 8, 6)");
        E.tell("step(0, 6, 8, 6)");
        E.refused("step(0, 7, 8, 7)", "step(0, 1, 1, 7)", "step(0, 6, 8, 7)", "step(0, 0, 1, 7)");
        E.due("price(0, 1, 1)", 1006);
        E.due("price(0, 1, 8)", 1001);
        for (int s = 1; s <= 6; s++) {
            E.tell("step(1, " + s + ", 8, " + 10 * s + ")");
        }
        E.refused("step(1, 7, 8, 70)");
        E.due("price(0, 1, 1)", 1066);
    }

    private static void stepThatActs() {
        E.sentence("terms: the step acts that is the last with a share not greater than that");
        sold(1000);
        E.due("price(0, 0, 1)", 1000);
        E.due("price(0, 1, 1)", 1000);
        E.tell("step(0, 1, 3, 100)", "step(0, 2, 3, 20)");
        E.due("price(0, 0, 1)", 1000);
        E.due("price(0, 333, 1000)", 1000);
        E.due("price(0, 332, 997)", 1000);
        E.due("price(0, 1, 3)", 1100);
        E.due("price(0, 333, 999)", 1100);
        E.due("price(0, 333, 998)", 1100);
        E.due("price(0, 666, 1000)", 1100);
        E.due("price(0, 665, 998)", 1100);
        E.due("price(0, 2, 3)", 1020);
        E.due("price(0, 666, 999)", 1020);
        E.due("price(0, 667, 1000)", 1020);
        E.due("price(0, 1, 1)", 1020);

        E.sentence("terms: a step with the share 0 acts with each share, one with the share 1 with 1");
        sold(1000);
        E.tell("step(0, 0, 1, 100)", "step(1, 1, 1, 20)");
        E.due("price(0, 0, 1000)", 1100);
        E.due("price(0, 1, 1000)", 1100);
        E.due("price(0, 999, 1000)", 1100);
        E.due("price(0, 1, 1)", 1120);
        E.due("price(0, 1000, 1000)", 1120);

        E.sentence("terms: of six steps the first, and the last, acts at its share");
        sold(1000);
        for (int s = 1; s <= 6; s++) {
            E.tell("step(0, " + s + ", 10, " + s + ")");
        }
        for (int s = 1; s <= 6; s++) {
            E.due("price(0, " + (100 * s - 1) + ", 1000)", 999 + s);
            E.due("price(0, " + 100 * s + ", 1000)", 1000 + s);
        }
        E.due("price(0, 10, 10)", 1006);
    }

    private static void priceOfNone() {
        E.sentence("19: NONE when the bid does not win: before one was found");
        E.rivals(5);
        E.open(0);
        E.refused("price(0, 1, 2)");

        E.sentence("19: NONE when the bid does not win: it lost, is not in play, or there is none");
        sold(1000);
        E.refused("price(1, 1, 2)", "price(2, 1, 2)", "price(3, 1, 2)", "price(-1, 1, 2)",
                "price(12, 1, 2)", "price(32, 1, 2)", "price(-32, 1, 2)", "price(intmin, 1, 2)",
                "price(intmax, 1, 2)");
        E.due("price(0, 1, 2)", 1000);
    }

    private static void shareOfPrice() {
        E.sentence("19: NONE when it is no share: below of 1 .. 1000");
        sold(1000);
        E.refused("price(0, 0, 0)", "price(0, 0, -1)", "price(0, -1, -1)", "price(0, 1, 0)",
                "price(0, 0, 1001)", "price(0, 1001, 1001)", "price(0, 0, min)", "price(0, 0, max)",
                "price(0, max, max)", "price(0, 0, 4294967297)");
        E.due("price(0, 0, 1)", 1000);
        E.due("price(0, 0, 1000)", 1000);

        E.sentence("19: NONE when it is no share: above of 0 .. below");
        sold(1000);
        E.refused("price(0, -1, 1)", "price(0, 2, 1)", "price(0, -1, 1000)", "price(0, 1001, 1000)",
                "price(0, min, 1)", "price(0, max, 1)", "price(0, 4294967296, 1)", "price(0, 6, 5)");
        E.due("price(0, 0, 1)", 1000);
        E.due("price(0, 1, 1)", 1000);
        E.due("price(0, 1000, 1000)", 1000);
        E.due("price(0, 5, 5)", 1000);
    }

    private static void priceHeldAtZero() {
        E.sentence("19: at least 0: 1, 0 and -1");
        sold(1000);
        E.tell("step(0, 1, 4, -999)", "step(0, 2, 4, -1000)", "step(0, 3, 4, -1001)",
                "step(0, 4, 4, -1000000)");
        E.due("price(0, 0, 4)", 1000);
        E.due("price(0, 1, 4)", 1);
        E.due("price(0, 2, 4)", 0);
        E.due("price(0, 3, 4)", 0);
        E.due("price(0, 4, 4)", 0);

        E.sentence("19: at least 0, by the steps of all its lots together");
        sold(1000);
        E.tell("step(0, 1, 4, -600)", "step(1, 1, 4, -399)", "step(1, 2, 4, -400)",
                "step(1, 3, 4, -401)", "step(1, 1, 1, 600)");
        E.due("price(0, 1, 4)", 1);
        E.due("price(0, 2, 4)", 0);
        E.due("price(0, 3, 4)", 0);
        E.due("price(0, 1, 1)", 1000);
        sold(1000);
        E.tell("step(0, 0, 1, -1500)", "step(1, 0, 1, 700)");
        E.due("price(0, 0, 1)", 200);

        E.sentence("19: a bid of 0 cents has the price 0, and its steps come on top");
        E.rivals(0);
        E.open(0);
        E.due("run(2)", 1);
        E.tell("step(0, 1, 3, -1)", "step(0, 2, 3, 1)");
        E.due("price(0, 0, 1)", 0);
        E.due("price(0, 1, 3)", 0);
        E.due("price(0, 2, 3)", 1);
    }

    private static void pricesAtTheirGreatest() {
        E.sentence("19: the greatest price, and what the least steps leave of it");
        E.lots(8);
        E.bidders(1);
        E.bid(0, 100000000, 0, 1, 2, 3, 4, 5, 6, 7);
        E.open(0);
        E.due("run(2)", 1);
        for (int lot = 0; lot < 8; lot++) {
            E.tell("step(" + lot + ", 0, 1, 1000000)", "step(" + lot + ", 1, 1, -1000000)");
        }
        E.due("price(0, 0, 1)", 108000000);
        E.due("price(0, 1, 1)", 92000000);
    }

    private static void priceAsStepsAre() {
        E.sentence("19: as the steps are: those that came since one was found act");
        sold(1000);
        E.due("price(0, 1, 1)", 1000);
        E.tell("step(0, 1, 2, 5)");
        E.due("price(0, 1, 1)", 1005);
        E.tell("step(1, 1, 2, 50)", "step(2, 1, 2, 500)");
        E.due("price(0, 1, 1)", 1055);
        E.tell("step(0, 1, 1, 7)");
        E.due("price(0, 1, 1)", 1057);

        E.sentence("19: indices do not change the price with a share");
        sold(1000);
        E.tell("index(0, 2, 1)");
        E.due("price(0, 1, 1)", 1000);
    }

    private static void monthsOfIndices() {
        E.sentence("20: a month, 0 .. 59");
        sold(1000);
        E.refused("index(-1, 2, 1)", "index(60, 2, 1)", "index(intmin, 2, 1)", "index(intmax, 2, 1)",
                "index(-60, 2, 1)", "index(120, 2, 1)");
        E.tell("index(0, 2, 1)", "index(59, 3, 1)");
        E.due("monthly(0, 0)", 2000);
        E.due("monthly(0, 58)", 2000);
        E.due("monthly(0, 59)", 6000);
        E.refused("index(-1, 2, 1)", "index(60, 2, 1)");
    }

    private static void partsOfIndices() {
        E.sentence("20: above of 1 .. 1000");
        sold(1000);
        E.refused("index(1, 0, 1)", "index(1, -1, 1)", "index(1, 1001, 1)", "index(1, min, 1)",
                "index(1, max, 1)", "index(1, 4294967297, 1)", "index(1, 0, 1000)");
        E.tell("index(1, 1, 1)", "index(2, 1000, 1)");
        E.due("monthly(0, 1)", 1000);
        E.due("monthly(0, 2)", 1000000);

        E.sentence("20: below of 1 .. 1000");
        sold(1000);
        E.refused("index(1, 1, 0)", "index(1, 1, -1)", "index(1, 1, 1001)", "index(1, 1, min)",
                "index(1, 1, max)", "index(1, 1, 4294967297)", "index(1, 1000, 0)");
        E.tell("index(1, 1, 1)", "index(2, 1, 1000)");
        E.due("monthly(0, 1)", 1000);
        E.due("monthly(0, 2)", 1);

        E.sentence("20: above may be less than below, the same, or more");
        sold(1000);
        E.tell("index(0, 999, 1000)", "index(1, 1000, 1000)", "index(2, 1000, 999)");
        E.due("monthly(0, 0)", 999);
        E.due("monthly(0, 1)", 999);
        E.due("monthly(0, 2)", 1000);
    }

    private static void indexToldAlready() {
        E.sentence("20: false when the index of the month was told, by the same parts or others");
        sold(1000);
        int[] months = {0, 1, 58, 59};
        for (int month : months) {
            E.tell("index(" + month + ", 3, 2)");
            E.refused("index(" + month + ", 3, 2)", "index(" + month + ", 5, 1)",
                    "index(" + month + ", 1, 1)");
        }
        E.due("monthly(0, 0)", 1500);
        E.due("monthly(0, 59)", 5062);

        E.sentence("20: an index of 1 was told too");
        sold(1000);
        E.tell("index(3, 1, 1)");
        E.refused("index(3, 1, 1)", "index(3, 2, 1)");

        E.sentence("20: an index that was refused was not told");
        sold(1000);
        E.refused("index(3, 0, 1)", "index(3, 1, 0)", "index(3, 1001, 1)", "index(3, 1, 1001)");
        E.tell("index(3, 2, 1)");
        E.due("monthly(0, 3)", 2000);
    }

    private static void monthlyOfNone() {
        E.sentence("21: NONE when the bid does not win: before one was found");
        E.rivals(5);
        E.open(0);
        E.refused("monthly(0, 0)");

        E.sentence("21: NONE when the bid does not win: it lost, is not in play, or there is none");
        sold(1000);
        E.refused("monthly(1, 0)", "monthly(2, 0)", "monthly(3, 0)", "monthly(-1, 0)",
                "monthly(12, 0)", "monthly(32, 0)", "monthly(-32, 0)", "monthly(intmin, 0)",
                "monthly(intmax, 0)");
        E.due("monthly(0, 0)", 1000);
    }

    private static void monthsOfMonthly() {
        E.sentence("21: a month, 0 .. 59");
        sold(1000);
        E.refused("monthly(0, -1)", "monthly(0, 60)", "monthly(0, intmin)", "monthly(0, intmax)",
                "monthly(0, -60)", "monthly(0, 120)");
        E.due("monthly(0, 0)", 1000);
        E.due("monthly(0, 59)", 1000);
    }

    private static void monthlyGoesUpToItsMonth() {
        E.sentence("21: month by month up to that one, with its own index and no later one's");
        sold(1000);
        E.tell("index(0, 2, 1)", "index(30, 3, 1)", "index(59, 5, 1)");
        E.due("monthly(0, 0)", 2000);
        E.due("monthly(0, 1)", 2000);
        E.due("monthly(0, 29)", 2000);
        E.due("monthly(0, 30)", 6000);
        E.due("monthly(0, 31)", 6000);
        E.due("monthly(0, 58)", 6000);
        E.due("monthly(0, 59)", 30000);

        E.sentence("21: by the months, not as the indices were told");
        sold(10);
        E.tell("index(9, 1, 4)", "index(8, 1, 3)", "index(7, 7, 1)");
        E.due("monthly(0, 6)", 10);
        E.due("monthly(0, 7)", 70);
        E.due("monthly(0, 8)", 23);
        E.due("monthly(0, 9)", 5);

        E.sentence("21: its cents, without the steps");
        sold(1000);
        E.tell("step(0, 0, 1, 500)", "index(0, 2, 1)");
        E.due("monthly(0, 0)", 2000);
        E.due("monthly(0, 59)", 2000);
    }

    private static void monthlyGoesDown() {
        E.sentence("21: down: just at a whole cent, below it and above it");
        long[][] downs = {{999, 333}, {1000, 333}, {1001, 333}, {1002, 334}, {2, 0}, {3, 1}};
        for (long[] down : downs) {
            E.anew();
            E.lots(1);
            E.bidders(1);
            E.bid(0, down[0], 0);
            E.open(0);
            E.due("run(2)", 1);
            E.tell("index(0, 1, 3)", "index(1, 3, 1)");
            E.due("monthly(0, 0)", down[1]);
            E.due("monthly(0, 1)", 3 * down[1]);
        }

        E.sentence("21: a price of 0 stays 0");
        sold(1);
        E.tell("index(0, 1, 2)", "index(1, 1000, 1)");
        E.due("monthly(0, 0)", 0);
        E.due("monthly(0, 1)", 0);
        E.due("monthly(0, 59)", 0);
    }

    /** 37000037 * 91 * 297 = 999999999999 and 99990001 * 73 * 137 = 1000000000001. */
    private static void monthlyHeld() {
        E.sentence("21: 1000000000000 at most: one cent less is not held");
        sold(37000037);
        E.tell("index(0, 91, 1)", "index(1, 297, 1)");
        E.due("monthly(0, 1)", 999999999999L);

        E.sentence("21: 1000000000000 at most: just that");
        sold(100000000);
        E.tell("index(0, 1000, 1)", "index(1, 10, 1)", "index(2, 1, 1)");
        E.due("monthly(0, 0)", 100000000000L);
        E.due("monthly(0, 1)", 1000000000000L);
        E.due("monthly(0, 2)", 1000000000000L);

        E.sentence("21: 1000000000000 at most: one cent more is held");
        sold(99990001);
        E.tell("index(0, 73, 1)", "index(1, 137, 1)", "index(2, 1, 1000)", "index(3, 1000, 1)");
        E.due("monthly(0, 0)", 7299270073L);
        E.due("monthly(0, 1)", 1000000000000L);
        E.due("monthly(0, 2)", 1000000000L);
        E.due("monthly(0, 3)", 1000000000000L);

        E.sentence("21: what is held goes on from 1000000000000, month by month");
        sold(100000000);
        for (int month = 0; month < 58; month++) {
            E.tell("index(" + month + ", 1000, 1)");
        }
        E.tell("index(58, 1, 1000)", "index(59, 1, 3)");
        E.due("monthly(0, 1)", 1000000000000L);
        E.due("monthly(0, 57)", 1000000000000L);
        E.due("monthly(0, 58)", 1000000000L);
        E.due("monthly(0, 59)", 333333333L);

        E.sentence("21: times above over below before it is held");
        sold(100000000);
        E.tell("index(0, 1000, 1)", "index(1, 10, 1)", "index(2, 1000, 999)", "index(3, 999, 1000)");
        E.due("monthly(0, 2)", 1000000000000L);
        E.due("monthly(0, 3)", 999000000000L);
        sold(100000000);
        E.tell("index(0, 1000, 1)", "index(1, 1000, 101)", "index(2, 101, 100)");
        E.due("monthly(0, 1)", 990099009900L);
        E.due("monthly(0, 2)", 999999999999L);
    }
}
