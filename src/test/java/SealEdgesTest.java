/** Promises 8 to 10: each sentence that names a boundary case, at the boundary and just beyond it. */
public final class SealEdgesTest {
    private static final Edges E = new Edges();

    public static void main(String[] args) {
        placesOfSealBytes();
        sealBytes();
        sealOfNone();
        sealToldAlready();
        sealOfOpened();
        placesOfDigestBytes();
        digestOfNone();
        digestOfBidderWithoutBids();
        digestWraps();
        digestWrapsByLots();
        digestTakesBidsByNumbers();
        digestTakesLots();
        openingOfNone();
        openingOfOpened();
        openingWithSealNotWhole();
        openingWithSealNotTheDigest();
        openingAnswersBids();
        openedIsNotToldOf();
        E.end();
    }

    private static void placesOfSealBytes() {
        E.sentence("8: byte i, 0 .. 7, of a seal");
        E.rivals(5);
        E.refused("seal(0, -1, 0)", "seal(0, intmin, 0)", "seal(0, -32, 0)");
        E.sealByte(0, 0);
        E.refused("seal(0, 8, 0)", "seal(0, intmax, 0)", "seal(0, 32, 0)", "seal(0, 39, 0)",
                "seal(0, 64, 0)");
        E.due("seal(0, 7, " + E.digest(0, 7) + ")", 2);
        E.refused("seal(0, 8, 0)", "seal(0, -1, 0)");

        E.sentence("8: answers how many of its bytes are told then, 1 to 8");
        E.rivals(5);
        int[] order = {7, 0, 6, 1, 5, 2, 4, 3};
        for (int told = 1; told <= 8; told++) {
            int i = order[told - 1];
            E.due("seal(0, " + i + ", " + E.digest(0, i) + ")", told);
        }
        E.due("open(0, 7)", 1);
    }

    private static void sealBytes() {
        E.sentence("8: a byte is 0 .. 255");
        E.bidders(1);
        E.refused("seal(0, 0, -1)", "seal(0, 0, 256)", "seal(0, 0, intmin)", "seal(0, 0, intmax)",
                "seal(0, 0, -256)", "seal(0, 0, 512)");
        E.due("seal(0, 0, 255)", 1);
        E.refused("seal(0, 1, -1)", "seal(0, 1, 256)");
        E.due("seal(0, 1, 0)", 2);
        E.due("seal(0, 2, 127)", 3);
        E.due("seal(0, 3, 128)", 4);
        E.due("seal(0, 4, 1)", 5);
        E.due("seal(0, 5, 254)", 6);
        E.due("seal(0, 6, 255)", 7);
        String salt = Long.toString(0xff007f8001feff00L);
        E.refused("seal(0, 7, -1)", "seal(0, 7, 256)", "open(0, " + salt + ")");
        E.due("seal(0, 7, 0)", 8);
        E.refused("open(0, 0)", "open(0, 1)");
        E.due("open(0, " + salt + ")", 0);
    }

    private static void sealOfNone() {
        E.sentence("8: NONE when there is no such bidder");
        E.rivals(5);
        E.refused("seal(-1, 0, 0)", "seal(1, 0, 0)", "seal(6, 0, 0)", "seal(intmin, 0, 0)",
                "seal(intmax, 0, 0)");
        E.bidders(5);
        E.due("seal(5, 0, 0)", 1);
        E.refused("seal(6, 0, 0)");
    }

    private static void sealToldAlready() {
        E.sentence("8, terms: NONE when the byte was told, by the same value or another");
        E.rivals(5);
        for (int i = 0; i < 8; i++) {
            E.sealByte(0, i);
            long b = E.digest(0, i);
            E.refused("seal(0, " + i + ", " + b + ")", "seal(0, " + i + ", " + (b ^ 1) + ")",
                    "seal(0, " + i + ", 0)", "seal(0, " + i + ", 255)");
        }
        E.due("open(0, 7)", 1);

        E.sentence("8: a byte of 0 was told too");
        E.bidders(1);
        for (int i = 0; i < 8; i++) {
            E.due("seal(0, " + i + ", 0)", i + 1);
            E.refused("seal(0, " + i + ", 0)", "seal(0, " + i + ", 7)");
        }
        E.refused("open(0, 7)");
        E.due("open(0, 0)", 0);

        E.sentence("8: a byte that another bidder was told of is not told");
        E.bidders(2);
        E.due("seal(0, 0, 9)", 1);
        E.due("seal(1, 0, 9)", 1);
        E.refused("seal(1, 0, 9)", "seal(0, 0, 9)");
    }

    private static void sealOfOpened() {
        E.sentence("8: NONE when the bidder is opened");
        E.rivals(5);
        E.bidders(1);
        E.open(0);
        for (int i = 0; i < 8; i++) {
            E.refused("seal(0, " + i + ", " + E.digest(0, i) + ")", "seal(0, " + i + ", 0)");
        }
        E.due("seal(1, 0, 0)", 1);
    }

    private static void placesOfDigestBytes() {
        E.sentence("9: byte i of the digest, the highest first, NONE for what is no byte of it");
        E.rivals(5);
        E.refused("digest(0, 7, -1)", "digest(0, 7, 8)", "digest(0, 7, intmin)",
                "digest(0, 7, intmax)", "digest(0, 7, 15)", "digest(0, 7, -8)");
        dueDigest(0, "7", 245, 112, 43, 195, 60, 201, 112, 85);
    }

    private static void dueDigest(int bidder, String salt, int... bytes) {
        for (int i = 0; i < 8; i++) {
            E.due("digest(" + bidder + ", " + salt + ", " + i + ")", bytes[i]);
        }
    }

    private static void digestOfNone() {
        E.sentence("9: NONE when there is no such bidder");
        E.rivals(5);
        E.refused("digest(-1, 7, 0)", "digest(1, 7, 0)", "digest(6, 7, 0)", "digest(intmin, 7, 0)",
                "digest(intmax, 7, 0)");
        E.bidders(5);
        dueDigest(5, "7", 0, 0, 0, 0, 0, 0, 0, 7);
        E.refused("digest(6, 7, 0)");
    }

    private static void digestOfBidderWithoutBids() {
        E.sentence("terms: the digest of a bidder without bids are the bytes of the salt");
        E.bidders(2);
        E.bid(1, 5);
        dueDigest(0, "0", 0, 0, 0, 0, 0, 0, 0, 0);
        dueDigest(0, "-1", 255, 255, 255, 255, 255, 255, 255, 255);
        dueDigest(0, "max", 127, 255, 255, 255, 255, 255, 255, 255);
        dueDigest(0, "min", 128, 0, 0, 0, 0, 0, 0, 0);
        dueDigest(0, "72623859790382856", 1, 2, 3, 4, 5, 6, 7, 8);
    }

    /** The bytes were reckoned with numbers that do not wrap, and cut to 64 bits. */
    private static void digestWraps() {
        E.sentence("terms: x + cents + 1 wraps at the greatest long");
        E.bidders(1);
        E.bid(0, 0);
        dueDigest(0, "max", 113, 163, 128, 186, 20, 32, 128, 58);
        dueDigest(0, "9223372036854775806", 144, 77, 222, 29, 115, 70, 226, 209);
        E.anew();
        E.lots(8);
        E.bidders(1);
        E.bid(0, 100000000, 0, 1, 2, 3, 4, 5, 6, 7);
        dueDigest(0, "max", 155, 173, 41, 2, 197, 146, 238, 198);
        dueDigest(0, "min", 149, 104, 147, 189, 133, 168, 241, 192);

        E.sentence("terms: x + cents + 1 comes to 0, and just below it");
        E.bidders(1);
        E.bid(0, 0);
        dueDigest(0, "-1", 20, 5, 123, 126, 223, 109, 119, 178);
        dueDigest(0, "-2", 237, 235, 227, 89, 136, 10, 152, 89);
        E.anew();
        E.lots(8);
        E.bidders(1);
        E.bid(0, 100000000, 0, 1, 2, 3, 4, 5, 6, 7);
        dueDigest(0, "-100000001", 5, 123, 126, 247, 109, 119, 178, 238);
        dueDigest(0, "-100000002", 223, 97, 230, 209, 125, 52, 225, 59);
    }

    /** The salts were reckoned backwards from the x that is to stand before the lots come to it. */
    private static void digestWrapsByLots() {
        E.sentence("terms: x plus the sum for its lots and 1 wraps at the greatest long, or comes to 0");
        E.bidders(1);
        E.bid(0, 5);
        dueDigest(0, "5140136887268721488", 107, 250, 132, 129, 223, 109, 119, 179);
        dueDigest(0, "571216954273491957", 128, 0, 0, 1, 0, 0, 0, 0);
        dueDigest(0, "1142433908546983920", 235, 250, 132, 128, 223, 109, 119, 179);
        dueDigest(0, "-3426486024448245611", 0, 0, 0, 0, 0, 0, 0, 0);
        E.anew();
        E.lots(8);
        E.bidders(1);
        E.bid(0, 5, 0, 1, 2, 3, 4, 5, 6, 7);
        dueDigest(0, "-6927409248803516171", 107, 250, 132, 129, 223, 109, 119, 179);
        dueDigest(0, "4213385424252670042", 128, 0, 0, 1, 0, 0, 0, 0);
        dueDigest(0, "7521631846184297877", 235, 250, 132, 128, 223, 109, 119, 179);
        dueDigest(0, "-2521347022127203398", 0, 0, 0, 0, 0, 0, 0, 0);
    }

    private static void digestTakesBidsByNumbers() {
        E.sentence("terms: the digest takes each bid of the bidder, by numbers, and no other's");
        E.lots(1);
        E.bidders(2);
        E.bid(0, 5);
        E.bid(1, 6);
        dueDigest(0, "7", 225, 106, 176, 66, 28, 20, 198, 6);
        E.bid(0, 6);
        E.bid(1, 5, 0);
        E.tell("on(0, 0)");
        dueDigest(0, "7", 252, 199, 169, 198, 139, 181, 63, 215);
        dueDigest(1, "7", 141, 5, 161, 112, 108, 14, 152, 32);
        E.open(0);
        dueDigest(0, "7", 252, 199, 169, 198, 139, 181, 63, 215);
    }

    private static void digestTakesLots() {
        E.sentence("terms: the sum of 2^l for its lots and 1: for no lot, lot 0 and lot 7");
        E.lots(8);
        E.bidders(3);
        E.bid(0, 5);
        E.bid(1, 5, 0);
        E.bid(2, 5, 7);
        dueDigest(0, "7", 225, 106, 176, 66, 28, 20, 198, 6);
        dueDigest(1, "7", 245, 112, 43, 195, 60, 201, 112, 85);
        dueDigest(2, "7", 228, 40, 111, 190, 90, 210, 145, 126);
    }

    private static void openingOfNone() {
        E.sentence("10: NONE when there is no such bidder");
        E.rivals(5);
        E.sealWhole(0);
        E.refused("open(-1, 7)", "open(1, 7)", "open(6, 7)", "open(intmin, 7)", "open(intmax, 7)");
        E.bidders(5);
        E.sealWhole(5);
        E.due("open(5, 7)", 0);
        E.refused("open(6, 7)");
    }

    private static void openingOfOpened() {
        E.sentence("10: NONE when the bidder is opened");
        E.rivals(5);
        E.sealWhole(0);
        E.due("open(0, 7)", 1);
        E.refused("open(0, 7)", "open(0, 8)", "open(0, 0)");
        E.anew();
        E.bidders(1);
        E.sealWhole(0);
        E.due("open(0, 7)", 0);
        E.refused("open(0, 7)");
    }

    private static void openingWithSealNotWhole() {
        E.sentence("10: NONE when the seal is not told whole: no byte of it");
        E.rivals(5);
        E.refused("open(0, 7)", "open(0, 0)");
        E.anew();
        E.bidders(1);
        E.refused("open(0, 7)", "open(0, 0)");

        E.sentence("10: NONE when the seal is not told whole: up to seven bytes of it");
        E.rivals(5);
        for (int i = 0; i < 8; i++) {
            E.refused("open(0, 7)");
            E.sealByte(0, i);
        }
        E.due("open(0, 7)", 1);

        E.sentence("10: NONE when the seal is not told whole: any one byte, that would be 0");
        for (int left = 0; left < 8; left++) {
            E.anew();
            E.bidders(1);
            for (int i = 0; i < 8; i++) {
                if (i != left) {
                    E.tell("seal(0, " + i + ", 0)");
                }
            }
            E.refused("open(0, 0)");
            E.due("seal(0, " + left + ", 0)", 8);
            E.due("open(0, 0)", 0);
        }
    }

    private static void openingWithSealNotTheDigest() {
        E.sentence("10: NONE when the seal is not the digest by one bit of one byte");
        for (int wrong = 0; wrong < 8; wrong++) {
            for (int bit = 0; bit < 8; bit++) {
                openWithWrongBit(wrong, bit);
            }
        }

        E.sentence("10: NONE when the seal is not the digest by this salt");
        E.rivals(5);
        E.sealWhole(0);
        E.refused("open(0, 6)", "open(0, 8)", "open(0, -7)", "open(0, 4294967303)", "open(0, 0)");
        E.due("open(0, 7)", 1);

        E.sentence("10: NONE when the seal is not the digest as the bids are now");
        E.lots(2);
        E.bidders(1);
        E.bid(0, 5, 0);
        E.sealWhole(0);
        E.tell("on(0, 1)");
        E.refused("open(0, 7)");
        E.anew();
        E.rivals(5);
        E.sealWhole(0);
        E.bid(0, 0);
        E.refused("open(0, 7)");
        E.anew();
        E.lots(1);
        E.bidders(1);
        E.bid(0, 5);
        int[] later = {245, 112, 43, 195, 60, 201, 112, 85};
        for (int i = 0; i < 8; i++) {
            E.tell("seal(0, " + i + ", " + later[i] + ")");
        }
        E.refused("open(0, 7)");
        E.tell("on(0, 0)");
        E.due("open(0, 7)", 1);
    }

    private static void openWithWrongBit(int wrong, int bit) {
        E.anew();
        E.rivals(5);
        for (int i = 0; i < 8; i++) {
            long b = E.digest(0, i);
            E.tell("seal(0, " + i + ", " + (i == wrong ? b ^ 1 << bit : b) + ")");
        }
        E.refused("open(0, 7)");
        E.tell("time(0, 5)", "most(0, 5)", "bid(0, 5)", "on(1, 0)");
    }

    private static void openingAnswersBids() {
        E.sentence("10: answers how many bids it has: 0 for a bidder without bids");
        E.bidders(2);
        E.bid(1, 5);
        E.sealWhole(0);
        E.due("open(0, 7)", 0);

        E.sentence("10: bids without a lot count, those of others do not");
        E.lots(1);
        E.tell("bidder(false)", "bidder(true)");
        E.bid(0, 5);
        E.bid(1, 5, 0);
        E.bid(0, 5, 0);
        E.bid(0, 0);
        E.sealWhole(0, 1);
        E.due("open(0, 7)", 3);
        E.due("open(1, 7)", 1);
    }

    private static void openedIsNotToldOf() {
        E.sentence("terms: nothing more is told of an opened bidder and its bids");
        E.lots(2);
        E.tell("bidder(true)", "bidder(true)", "bidder(false)");
        E.bid(0, 5, 0);
        E.bid(1, 5, 0);
        E.bid(2, 5, 0);
        E.open(0, 2);
        for (int bidder = 0; bidder < 3; bidder += 2) {
            E.refused("time(" + bidder + ", 5)", "most(" + bidder + ", 0)", "bid(" + bidder + ", 9)",
                    "on(" + bidder + ", 1)", "seal(" + bidder + ", 0, 0)",
                    "open(" + bidder + ", 7)");
        }
        E.tell("time(1, 5)", "most(1, 0)", "bid(1, 9)", "on(1, 1)", "seal(1, 0, 0)");

        E.sentence("terms: lots, steps, indices and disputes are told when all bidders are opened");
        E.bidders(1);
        E.open(0);
        E.tell("lot(5)", "step(0, 1, 2, 5)", "index(0, 1, 2)", "bidder(true)");
        E.anew();
        E.rivals(5);
        E.open(0);
        E.tell("lot(5)", "step(0, 1, 2, 5)", "step(1, 1, 2, 5)", "index(0, 1, 2)", "dispute(0, 1)",
                "bidder(true)");
    }
}
