/** Compares answers with those that are due, prints the others, and ends a test by its exit code. */
final class Check {
    private int wrong;

    void due(String call, long got, long want) {
        if (got != want) {
            wrong++;
            System.out.println(call + " answered " + got + ", due is " + want);
        }
    }

    void due(String call, boolean got, boolean want) {
        if (got != want) {
            wrong++;
            System.out.println(call + " answered " + got + ", due is " + want);
        }
    }

    void end() {
        System.out.println(wrong == 0 ? "all answers are as due" : wrong + " answers are not as due");
        if (wrong != 0) {
            System.exit(1);
        }
    }

    /** A new object with some lots. */
    static BaleTenders withLots(int lots) {
        BaleTenders x = new BaleTenders();
        for (int l = 0; l < lots; l++) {
            x.lot(1000);
        }
        return x;
    }

    /** A bid on lots; answers its number. */
    static int bidOn(BaleTenders x, int bidder, long cents, int... lots) {
        int bid = x.bid(bidder, cents);
        for (int lot : lots) {
            x.on(bid, lot);
        }
        return bid;
    }

    /** Seals a bidder with its own digest and opens it; answers what open() does. */
    static int sealAndOpen(BaleTenders x, int bidder) {
        long salt = 17 + bidder;
        for (int i = 0; i < 8; i++) {
            x.seal(bidder, i, x.digest(bidder, salt, i));
        }
        return x.open(bidder, salt);
    }
}
