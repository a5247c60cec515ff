/** Bales sold by sealed tenders; ../shared/DOC.md tells the promises that the methods name. */
public final class BaleTenders {
    public static final int NONE = -1;

    private static final int MOST_LOTS = 8;
    private static final int MOST_BIDDERS = 6;
    private static final int MOST_BIDS = 12;
    private static final int MOST_STEPS = 6;
    private static final int MOST_DISPUTES = 20;
    private static final int MONTHS = 60;
    private static final int SEAL_BYTES = 8;
    private static final int LAST_REASON = 6;

    private static final long MOST_GRAMS = 1000000000L;
    private static final long MOST_MS = 1000000000L;
    private static final long MOST_BID_CENTS = 100000000L;
    private static final long MOST_STEP_CENTS = 1000000L;
    private static final long MOST_RATIO_PART = 1000L;
    private static final long MOST_MONTHLY_CENTS = 1000000000000L;

    private static final long CENTS_FACTOR = 6364136223846793005L;
    private static final long LOTS_FACTOR = 1442695040888963407L;

    private final Lot[] lots;
    private final Bidder[] bidders;
    private final Bid[] bids;
    private final Dispute[] disputes;
    private final long[] indexAbove;
    private final long[] indexBelow;
    private final SaleSearch search;
    private int lotCount;
    private int bidderCount;
    private int bidCount;
    private int disputeCount;
    private boolean toldSinceFound;

    /** Promise 1. */
    public BaleTenders() {
        lots = new Lot[MOST_LOTS];
        bidders = new Bidder[MOST_BIDDERS];
        bids = new Bid[MOST_BIDS];
        disputes = new Dispute[MOST_DISPUTES];
        indexAbove = new long[MONTHS];
        indexBelow = new long[MONTHS];
        search = new SaleSearch();
    }

    /** Promise 2. The grams are looked at, not kept: no call asks for them later. */
    public int lot(long grams) {
        if (lotCount >= MOST_LOTS || !within(grams, 1, MOST_GRAMS)) {
            return NONE;
        }
        int number = lotCount;
        lots[number] = new Lot();
        lotCount++;
        toldSinceFound = true;
        return number;
    }

    /** Promise 3. */
    public int bidder(boolean qualified) {
        if (bidderCount >= MOST_BIDDERS) {
            return NONE;
        }
        int number = bidderCount;
        bidders[number] = new Bidder(number, qualified);
        bidderCount++;
        toldSinceFound = true;
        return number;
    }

    /** Promise 4. */
    public boolean time(int bidder, long ms) {
        Bidder teller = unopenedAt(bidder);
        if (teller == null || !within(ms, 0, MOST_MS)) {
            return false;
        }
        teller.sealMs = ms;
        toldSinceFound = true;
        return true;
    }

    /** Promise 5. */
    public boolean most(int bidder, int lots) {
        Bidder teller = unopenedAt(bidder);
        if (teller == null || !within(lots, 0, MOST_LOTS)) {
            return false;
        }
        teller.lotLimit = lots;
        toldSinceFound = true;
        return true;
    }

    /** Promise 6. */
    public int bid(int bidder, long cents) {
        Bidder owner = unopenedAt(bidder);
        if (owner == null || bidCount >= MOST_BIDS || !within(cents, 0, MOST_BID_CENTS)) {
            return NONE;
        }
        int number = bidCount;
        bids[number] = new Bid(number, owner, cents);
        bidCount++;
        toldSinceFound = true;
        return number;
    }

    /** Promise 7. */
    public boolean on(int bid, int lot) {
        Bid offer = bidAt(bid);
        if (offer == null || lotAt(lot) == null || offer.owner.opened || offer.has(lot)) {
            return false;
        }
        offer.lotSet |= 1 << lot;
        toldSinceFound = true;
        return true;
    }

    /** Promise 8. */
    public int seal(int bidder, int i, int b) {
        Bidder teller = unopenedAt(bidder);
        if (teller == null || !isSealByte(i) || !within(b, 0, 255) || teller.toldSealByte(i)) {
            return NONE;
        }
        teller.keepSealByte(i, b);
        toldSinceFound = true;
        return teller.sealBytesTold();
    }

    /** Promise 9. */
    public int digest(int bidder, long salt, int i) {
        Bidder asked = bidderAt(bidder);
        if (asked == null || !isSealByte(i)) {
            return NONE;
        }
        return (int) (digestOf(asked, salt) >>> shiftOfByte(i)) & 255;
    }

    /** Promise 10. */
    public int open(int bidder, long salt) {
        Bidder teller = unopenedAt(bidder);
        if (teller == null || teller.sealBytesTold() < SEAL_BYTES
                || teller.sealBits != digestOf(teller, salt)) {
            return NONE;
        }
        teller.opened = true;
        toldSinceFound = true;
        return bidsOf(teller);
    }

    /** Promise 11. */
    public int run(long nodes) {
        if ((1L << bidsInPlay()) > nodes) {
            return NONE;
        }
        search.forget();
        for (Bid offer : bids) {
            if (inPlay(offer)) {
                search.addInOrder(offer);
            }
        }
        search.find();
        toldSinceFound = false;
        return Integer.bitCount(search.winners);
    }

    /** Promise 12. */
    public boolean wins(int bid) {
        return winnerAt(bid) != null;
    }

    /** Promise 13. */
    public long sum() {
        return search.bestSum;
    }

    /** Promise 14. */
    public long bound() {
        long total = 0;
        for (int l = 0; l < MOST_LOTS; l++) {
            total += greatestCentsOn(l);
        }
        return total;
    }

    /** Promise 15. */
    public boolean proved() {
        return search.bestSum != NONE && !toldSinceFound;
    }

    /** Promise 16. */
    public long second(int bid) {
        Bid winner = winnerAt(bid);
        if (winner == null) {
            return NONE;
        }
        return winner.cents - search.bestSum + search.bestWithout[winner.number];
    }

    /** Promise 17. */
    public int tie(int k, int which) {
        if (k < 0 || !within(which, 0, 1)) {
            return NONE;
        }
        int left = k;
        for (Bid offer : bids) {
            if (offer != null && search.ties(offer)) {
                if (left == 0) {
                    return which == 0 ? offer.number : offer.owner.number;
                }
                left--;
            }
        }
        return NONE;
    }

    /** Promise 18. */
    public boolean step(int lot, long above, long below, long cents) {
        Lot stepped = lotAt(lot);
        if (stepped == null || !isShare(above, below)
                || !within(cents, -MOST_STEP_CENTS, MOST_STEP_CENTS)
                || !stepped.addStep(above, below, cents)) {
            return false;
        }
        toldSinceFound = true;
        return true;
    }

    /** Promise 19. */
    public long price(int bid, long shareAbove, long shareBelow) {
        Bid winner = winnerAt(bid);
        if (winner == null || !isShare(shareAbove, shareBelow)) {
            return NONE;
        }
        long cents = winner.cents;
        for (int l = 0; l < MOST_LOTS; l++) {
            Lot stepped = lots[l];
            if (stepped != null && winner.has(l)) {
                cents += stepped.centsAt(shareAbove, shareBelow);
            }
        }
        return Math.max(cents, 0L);
    }

    /** Promise 20. */
    public boolean index(int month, long above, long below) {
        if (!isMonth(month) || hasIndex(month)
                || !within(above, 1, MOST_RATIO_PART) || !within(below, 1, MOST_RATIO_PART)) {
            return false;
        }
        indexAbove[month] = above;
        indexBelow[month] = below;
        toldSinceFound = true;
        return true;
    }

    /** Promise 21. */
    public long monthly(int bid, int month) {
        Bid winner = winnerAt(bid);
        if (winner == null || !isMonth(month)) {
            return NONE;
        }
        long cents = winner.cents;
        for (int m = 0; m <= month; m++) {
            if (hasIndex(m)) {
                cents = Math.min(cents * indexAbove[m] / indexBelow[m], MOST_MONTHLY_CENTS);
            }
        }
        return cents;
    }

    /** Promise 22. */
    public int dispute(int bid, int reason) {
        Bid claimed = bidAt(bid);
        if (claimed == null || disputeCount >= MOST_DISPUTES || !within(reason, 1, LAST_REASON)) {
            return NONE;
        }
        int number = disputeCount;
        disputes[number] = new Dispute(claimed, reason);
        disputeCount++;
        toldSinceFound = true;
        return number;
    }

    /** Promise 23. */
    public int verdict(int dispute) {
        Dispute brought = disputeAt(dispute);
        if (brought == null) {
            return NONE;
        }
        if (search.hasWinner(brought.claimed)) {
            return 2;
        }
        return reasonHolds(brought.claimed, brought.reason) ? 1 : 0;
    }

    private static boolean within(long value, long least, long greatest) {
        return value >= least && value <= greatest;
    }

    private static boolean isSealByte(int i) {
        return within(i, 0, SEAL_BYTES - 1);
    }

    private static boolean isMonth(int month) {
        return within(month, 0, MONTHS - 1);
    }

    private static boolean isShare(long above, long below) {
        return within(below, 1, MOST_RATIO_PART) && within(above, 0, below);
    }

    /** The highest byte is byte 0, of seals and of digests alike. */
    private static int shiftOfByte(int i) {
        return 8 * (SEAL_BYTES - 1 - i);
    }

    private Lot lotAt(int number) {
        return number >= 0 && number < lotCount ? lots[number] : null;
    }

    private Bidder bidderAt(int number) {
        return number >= 0 && number < bidderCount ? bidders[number] : null;
    }

    private Bidder unopenedAt(int number) {
        Bidder found = bidderAt(number);
        return found != null && !found.opened ? found : null;
    }

    private Bid bidAt(int number) {
        return number >= 0 && number < bidCount ? bids[number] : null;
    }

    private Dispute disputeAt(int number) {
        return number >= 0 && number < disputeCount ? disputes[number] : null;
    }

    private Bid winnerAt(int number) {
        Bid found = bidAt(number);
        return found != null && search.hasWinner(found) ? found : null;
    }

    /** An index of a month that was told has 1 or more below. */
    private boolean hasIndex(int month) {
        return indexBelow[month] > 0;
    }

    private static boolean inPlay(Bid offer) {
        return offer != null && offer.lotSet != 0 && offer.owner.qualified && offer.owner.opened;
    }

    private int bidsInPlay() {
        int count = 0;
        for (Bid offer : bids) {
            if (inPlay(offer)) {
                count++;
            }
        }
        return count;
    }

    private int bidsOf(Bidder owner) {
        int count = 0;
        for (Bid offer : bids) {
            if (offer != null && offer.owner == owner) {
                count++;
            }
        }
        return count;
    }

    private long greatestCentsOn(int lot) {
        long greatest = 0;
        for (Bid offer : bids) {
            if (inPlay(offer) && offer.has(lot)) {
                greatest = Math.max(greatest, offer.cents);
            }
        }
        return greatest;
    }

    private long digestOf(Bidder owner, long salt) {
        long x = salt;
        for (Bid offer : bids) {
            if (offer != null && offer.owner == owner) {
                x = (x + offer.cents + 1) * CENTS_FACTOR;
                x ^= x >>> 29;
                x = (x + offer.lotSet + 1) * LOTS_FACTOR;
                x ^= x >>> 31;
            }
        }
        return x;
    }

    private boolean reasonHolds(Bid claimed, int reason) {
        if (reason != LAST_REASON) {
            return ownReasonHolds(claimed, reason);
        }
        for (int other = 1; other < LAST_REASON; other++) {
            if (ownReasonHolds(claimed, other)) {
                return false;
            }
        }
        return true;
    }

    /** The reasons that tell something by themselves: all but the last, which denies the others. */
    private boolean ownReasonHolds(Bid claimed, int reason) {
        switch (reason) {
            case 1:
                return !claimed.owner.qualified;
            case 2:
                return !claimed.owner.opened;
            case 3:
                return claimed.lotSet == 0;
            case 4:
                return (claimed.lotSet & lotsWon()) != 0;
            case 5:
                return claimed.lotTally() + lotTallyWonBy(claimed.owner) > claimed.owner.lotLimit;
            default:
                return false;
        }
    }

    private int lotsWon() {
        int won = 0;
        for (Bid offer : bids) {
            if (offer != null && search.hasWinner(offer)) {
                won |= offer.lotSet;
            }
        }
        return won;
    }

    private int lotTallyWonBy(Bidder owner) {
        int tally = 0;
        for (Bid offer : bids) {
            if (offer != null && offer.owner == owner && search.hasWinner(offer)) {
                tally += offer.lotTally();
            }
        }
        return tally;
    }

    /** A lot, as its steps: their shares rise from one to the next. */
    private static final class Lot {
        private final long[] above;
        private final long[] below;
        private final long[] cents;
        private int stepCount;

        Lot() {
            above = new long[MOST_STEPS];
            below = new long[MOST_STEPS];
            cents = new long[MOST_STEPS];
        }

        /** Answers false, and adds nothing, when the lot is full or the share does not rise. */
        boolean addStep(long shareAbove, long shareBelow, long stepCents) {
            if (stepCount >= MOST_STEPS
                    || stepCount > 0 && comparedTo(stepCount - 1, shareAbove, shareBelow) >= 0) {
                return false;
            }
            above[stepCount] = shareAbove;
            below[stepCount] = shareBelow;
            cents[stepCount] = stepCents;
            stepCount++;
            return true;
        }

        /** The cents of the step that acts with a share; 0 when none does. */
        long centsAt(long shareAbove, long shareBelow) {
            for (int s = stepCount - 1; s >= 0; s--) {
                if (comparedTo(s, shareAbove, shareBelow) <= 0) {
                    return cents[s];
                }
            }
            return 0;
        }

        /** How the share of a step stands to another: by products, so that none is rounded. */
        private int comparedTo(int s, long shareAbove, long shareBelow) {
            return Long.compare(above[s] * shareBelow, shareAbove * below[s]);
        }
    }

    private static final class Bidder {
        private final int number;
        private final boolean qualified;
        private boolean opened;
        private long sealMs;
        private int lotLimit;
        private long sealBits;
        private int sealToldSet;

        Bidder(int number, boolean qualified) {
            this.number = number;
            this.qualified = qualified;
            lotLimit = MOST_LOTS;
        }

        boolean toldSealByte(int i) {
            return (sealToldSet >>> i & 1) != 0;
        }

        void keepSealByte(int i, int value) {
            sealBits |= (long) value << shiftOfByte(i);
            sealToldSet |= 1 << i;
        }

        int sealBytesTold() {
            return Integer.bitCount(sealToldSet);
        }
    }

    private static final class Bid {
        private final int number;
        private final Bidder owner;
        private final long cents;
        private int lotSet;

        Bid(int number, Bidder owner, long cents) {
            this.number = number;
            this.owner = owner;
            this.cents = cents;
        }

        boolean has(int lot) {
            return (lotSet >>> lot & 1) != 0;
        }

        int lotTally() {
            return Integer.bitCount(lotSet);
        }
    }

    private static final class Dispute {
        private final Bid claimed;
        private final int reason;

        Dispute(Bid claimed, int reason) {
            this.claimed = claimed;
            this.reason = reason;
        }
    }

    /**
     * The search for the best sale, and what it found. Sets of bids are bits by the bids' numbers.
     * A bid in play never changes again, so what was found needs no copy of the bids.
     */
    private static final class SaleSearch {
        private final Bid[] order;
        private final long[] bestWithout;
        private int orderCount;
        private long bestSum;
        private int winners;
        private int inSomeBest;

        SaleSearch() {
            order = new Bid[MOST_BIDS];
            bestWithout = new long[MOST_BIDS];
            bestSum = NONE;
        }

        boolean hasWinner(Bid offer) {
            return (winners >>> offer.number & 1) != 0;
        }

        boolean ties(Bid offer) {
            return (inSomeBest >>> offer.number & 1) != 0 && !hasWinner(offer);
        }

        void forget() {
            for (int i = 0; i < MOST_BIDS; i++) {
                bestWithout[i] = 0;
            }
            orderCount = 0;
            bestSum = NONE;
            winners = 0;
            inSomeBest = 0;
        }

        /** Bids come by their numbers, so behind those of the same time is the right place. */
        void addInOrder(Bid offer) {
            if (orderCount >= MOST_BIDS) {
                return;
            }
            int place = orderCount;
            while (place > 0 && order[place - 1].owner.sealMs > offer.owner.sealMs) {
                order[place] = order[place - 1];
                place--;
            }
            order[place] = offer;
            orderCount++;
        }

        void find() {
            tryFrom(0, 0, 0, 0);
        }

        /**
         * Goes through the sales that go on from the chosen bids with those from a place on. A bid
         * is tried before it is left out, so of sales with one sum the first is met first.
         */
        private void tryFrom(int place, int chosen, int lotsTaken, long sum) {
            if (place >= orderCount) {
                keepSale(chosen, sum);
                return;
            }
            Bid next = order[place];
            if ((next.lotSet & lotsTaken) == 0 && staysWithinLimit(next, chosen)) {
                tryFrom(place + 1, chosen | 1 << next.number, lotsTaken | next.lotSet, sum + next.cents);
            }
            tryFrom(place + 1, chosen, lotsTaken, sum);
        }

        private boolean staysWithinLimit(Bid next, int chosen) {
            int tally = next.lotTally();
            for (int i = 0; i < orderCount; i++) {
                Bid other = order[i];
                if (other.owner == next.owner && (chosen >>> other.number & 1) != 0) {
                    tally += other.lotTally();
                }
            }
            return tally <= next.owner.lotLimit;
        }

        private void keepSale(int chosen, long sum) {
            if (sum > bestSum) {
                bestSum = sum;
                winners = chosen;
                inSomeBest = chosen;
            } else if (sum == bestSum) {
                inSomeBest |= chosen;
            }
            for (int i = 0; i < MOST_BIDS; i++) {
                if ((chosen >>> i & 1) == 0 && sum > bestWithout[i]) {
                    bestWithout[i] = sum;
                }
            }
        }
    }
}
