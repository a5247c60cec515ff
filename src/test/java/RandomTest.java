import java.util.Random;

/** Random runs of calls, by written seeds, with each answer compared to the plain model's. */
public final class RandomTest {
    private static final Check CHECK = new Check();
    private static final int RUNS = 500;
    private static final int CALLS = 512;

    private final Random random;
    private final String name;
    private final BaleTenders x = new BaleTenders();
    private final PlainModel m = new PlainModel();
    private final int greatestCents;
    private int calls;

    private RandomTest(int seed) {
        random = new Random(seed);
        name = "seed " + seed + ", call ";
        // Few different cents make many ties.
        int[] choices = {1, 3, 12, 100000000};
        greatestCents = choices[seed % choices.length];
    }

    public static void main(String[] args) {
        for (int seed = 0; seed < RUNS; seed++) {
            new RandomTest(seed).play();
        }
        CHECK.end();
    }

    private void play() {
        for (int l = random.nextInt(9); l > 0; l--) {
            lot();
        }
        for (int b = random.nextInt(7); b > 0; b--) {
            bidder();
        }
        while (calls < CALLS) {
            tellOrAsk(random.nextInt(100));
        }
    }

    private void due(String call, long got, long want) {
        calls++;
        CHECK.due(name + calls + ": " + call, got, want);
    }

    private void due(String call, boolean got, boolean want) {
        due(call, got ? 1 : 0, want ? 1 : 0);
    }

    /** Mostly 0 .. bound - 1, now and then just outside or far out. */
    private int near(int bound) {
        int kind = random.nextInt(40);
        if (kind == 0) {
            return random.nextInt();
        }
        return kind < 3 ? random.nextInt(bound + 4) - 2 : random.nextInt(bound);
    }

    private void lot() {
        long grams = near(1000000001);
        due("lot(" + grams + ")", x.lot(grams), m.lot(grams));
    }

    private void bidder() {
        boolean qualified = random.nextInt(6) > 0;
        due("bidder(" + qualified + ")", x.bidder(qualified), m.bidder(qualified));
    }

    private void tellOrAsk(int kind) {
        if (kind < 45) {
            tell(kind);
        } else if (kind < 70) {
            ask(kind);
        } else {
            askOfPrices(kind);
        }
    }

    private void tell(int kind) {
        int a = near(6);
        int bid = near(12);
        if (kind == 0) {
            lot();
        } else if (kind == 1) {
            bidder();
        } else if (kind < 6) {
            long ms = random.nextInt(20) == 0 ? near(1000000001) : near(4);
            due("time(" + a + ", " + ms + ")", x.time(a, ms), m.time(a, ms));
        } else if (kind < 10) {
            int most = near(9);
            due("most(" + a + ", " + most + ")", x.most(a, most), m.most(a, most));
        } else if (kind < 18) {
            long cents = random.nextInt(50) == 0 ? random.nextLong() : near(greatestCents + 1);
            due("bid(" + a + ", " + cents + ")", x.bid(a, cents), m.bid(a, cents));
        } else if (kind < 39) {
            int lot = near(8);
            due("on(" + bid + ", " + lot + ")", x.on(bid, lot), m.on(bid, lot));
        } else if (kind == 39 && random.nextInt(4) == 0) {
            int i = near(8);
            int b = near(256);
            due("seal(" + a + ", " + i + ", " + b + ")", x.seal(a, i, b), m.seal(a, i, b));
        } else if (kind < 42 && calls > 60) {
            sealAndOpen(a);
        } else {
            long salt = random.nextInt(3);
            due("open(" + a + ", " + salt + ")", x.open(a, salt), m.open(a, salt));
        }
    }

    private void sealAndOpen(int bidder) {
        long salt = random.nextLong();
        for (int i = 0; i < 8; i++) {
            int b = m.digest(bidder, salt, i);
            due("digest", x.digest(bidder, salt, i), b);
            due("seal", x.seal(bidder, i, b), m.seal(bidder, i, b));
        }
        due("open(" + bidder + ", " + salt + ")", x.open(bidder, salt), m.open(bidder, salt));
    }

    private void ask(int kind) {
        int bid = near(12);
        if (kind < 50) {
            long nodes = random.nextInt(4) == 0 ? 1L << random.nextInt(13) : 4096;
            nodes -= random.nextInt(10) == 0 ? 1 : 0;
            due("run(" + nodes + ")", x.run(nodes), m.run(nodes));
        } else if (kind < 53) {
            due("wins(" + bid + ")", x.wins(bid), m.wins(bid));
        } else if (kind < 55) {
            due("sum()", x.sum(), m.sum());
        } else if (kind < 57) {
            due("bound()", x.bound(), m.bound());
        } else if (kind < 60) {
            due("proved()", x.proved(), m.proved());
        } else if (kind < 65) {
            due("second(" + bid + ")", x.second(bid), m.second(bid));
        } else {
            int k = near(4);
            int which = near(2);
            due("tie(" + k + ", " + which + ")", x.tie(k, which), m.tie(k, which));
        }
    }

    private void askOfPrices(int kind) {
        int bid = near(12);
        long below = random.nextInt(3) == 0 ? near(1001) : near(7);
        long above = random.nextInt(3) == 0 ? near(1001) : near(7);
        int month = near(60);
        if (kind < 76) {
            int lot = near(8);
            long cents = random.nextInt(9) == 0 ? near(1000001) : near(21) - 10;
            due("step(" + lot + ", " + above + ", " + below + ", " + cents + ")",
                    x.step(lot, above, below, cents), m.step(lot, above, below, cents));
        } else if (kind < 82) {
            due("price(" + bid + ", " + above + ", " + below + ")",
                    x.price(bid, above, below), m.price(bid, above, below));
        } else if (kind < 85) {
            due("index(" + month + ", " + above + ", " + below + ")",
                    x.index(month, above, below), m.index(month, above, below));
        } else if (kind < 91) {
            due("monthly(" + bid + ", " + month + ")", x.monthly(bid, month), m.monthly(bid, month));
        } else if (kind < 94) {
            int reason = near(6) + 1;
            due("dispute(" + bid + ", " + reason + ")", x.dispute(bid, reason), m.dispute(bid, reason));
        } else {
            int dispute = near(20);
            due("verdict(" + dispute + ")", x.verdict(dispute), m.verdict(dispute));
        }
    }
}
