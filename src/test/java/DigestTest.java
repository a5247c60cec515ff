import java.math.BigInteger;

/** Promises 9 and 10: digests, reckoned anew with big numbers, and opening. */
public final class DigestTest {
    private static final Check CHECK = new Check();
    private static final BigInteger MODULUS = BigInteger.ONE.shiftLeft(64);

    public static void main(String[] args) {
        digestsAsReckoned();
        digestsOfNone();
        opening();
        openingNeedsEachByte();
        CHECK.end();
    }

    private static BigInteger mixed(BigInteger x, long add, String factor, int shift) {
        BigInteger y = x.add(BigInteger.valueOf(add)).multiply(new BigInteger(factor)).mod(MODULUS);
        return y.xor(y.shiftRight(shift));
    }

    private static BigInteger withBid(BigInteger x, long cents, int... lots) {
        long set = 1;
        for (int lot : lots) {
            set += 1L << lot;
        }
        BigInteger y = mixed(x, cents + 1, "6364136223846793005", 29);
        return mixed(y, set, "1442695040888963407", 31);
    }

    private static void dueDigest(BaleTenders x, int bidder, long salt, BigInteger want) {
        for (int i = 0; i < 8; i++) {
            int due = want.shiftRight(56 - 8 * i).intValue() & 255;
            CHECK.due("digest(" + bidder + ", " + salt + ", " + i + ")", x.digest(bidder, salt, i), due);
        }
    }

    private static BigInteger start(long salt) {
        return BigInteger.valueOf(salt).mod(MODULUS);
    }

    private static void digestsAsReckoned() {
        long[] salts = {0, 1, -1, 7, Long.MIN_VALUE, Long.MAX_VALUE, 0x0123456789abcdefL};
        BaleTenders x = Check.withLots(8);
        x.bidder(true);
        x.bidder(false);
        for (long salt : salts) {
            dueDigest(x, 0, salt, start(salt));
        }
        Check.bidOn(x, 0, 100000000L, 7, 0);
        Check.bidOn(x, 1, 3, 2);
        Check.bidOn(x, 0, 0);
        Check.bidOn(x, 0, 12345, 0, 1, 2, 3, 4, 5, 6, 7);
        for (long salt : salts) {
            BigInteger first = withBid(withBid(start(salt), 100000000L, 7, 0), 0);
            dueDigest(x, 0, salt, withBid(first, 12345, 0, 1, 2, 3, 4, 5, 6, 7));
            dueDigest(x, 1, salt, withBid(start(salt), 3, 2));
        }
        x.on(2, 6);
        BigInteger changed = withBid(withBid(start(9), 100000000L, 7, 0), 0, 6);
        dueDigest(x, 0, 9, withBid(changed, 12345, 0, 1, 2, 3, 4, 5, 6, 7));
        CHECK.due("open", Check.sealAndOpen(x, 1), 1);
        dueDigest(x, 1, 5, withBid(start(5), 3, 2));
    }

    private static void digestsOfNone() {
        BaleTenders x = new BaleTenders();
        x.bidder(true);
        CHECK.due("digest of bidder 1", x.digest(1, 5, 0), -1);
        CHECK.due("digest of bidder -1", x.digest(-1, 5, 0), -1);
        CHECK.due("digest byte 8", x.digest(0, 5, 8), -1);
        CHECK.due("digest byte -1", x.digest(0, 5, -1), -1);
    }

    private static void opening() {
        BaleTenders x = Check.withLots(3);
        x.bidder(true);
        x.bidder(false);
        x.bidder(true);
        Check.bidOn(x, 1, 5, 0);
        Check.bidOn(x, 0, 6, 1);
        Check.bidOn(x, 1, 7);
        CHECK.due("open of bidder 3", x.open(3, 5), -1);
        CHECK.due("open of bidder -1", x.open(-1, 5), -1);
        CHECK.due("open without seal", x.open(2, 0), -1);
        CHECK.due("open with two bids", Check.sealAndOpen(x, 1), 2);
        CHECK.due("open twice", x.open(1, 18), -1);
        for (int i = 0; i < 8; i++) {
            CHECK.due("open with " + i + " bytes", x.open(0, 44), -1);
            x.seal(0, i, x.digest(0, 44, i));
        }
        CHECK.due("open by another salt", x.open(0, 45), -1);
        CHECK.due("one more bid", x.bid(0, 1), 3);
        CHECK.due("open with bids that changed", x.open(0, 44), -1);
        CHECK.due("open without bids", Check.sealAndOpen(x, 2), 0);
    }

    private static void openingNeedsEachByte() {
        for (int wrong = 0; wrong < 8; wrong++) {
            BaleTenders x = Check.withLots(1);
            x.bidder(true);
            Check.bidOn(x, 0, 5, 0);
            for (int i = 0; i < 8; i++) {
                int b = x.digest(0, 3, i);
                x.seal(0, i, i == wrong ? b ^ 128 : b);
            }
            CHECK.due("open with byte " + wrong + " wrong", x.open(0, 3), -1);
            CHECK.due("it is not opened", x.time(0, 1), true);
        }
        BaleTenders y = new BaleTenders();
        y.bidder(true);
        for (int i = 1; i < 8; i++) {
            y.seal(0, i, 0);
        }
        CHECK.due("a byte not told is no 0", y.open(0, 0), -1);
        y.seal(0, 0, 0);
        CHECK.due("open by salt 0", y.open(0, 0), 0);
    }
}
