import java.math.BigInteger;
import java.util.ArrayList;
import java.util.Comparator;
import java.util.List;
import java.util.Set;
import java.util.TreeSet;

/** The document over again, in its plainest and slowest form, to compare random runs with. */
final class PlainModel {
    private static final BigInteger MODULUS = BigInteger.ONE.shiftLeft(64);

    private static final class Bidder {
        boolean qualified;
        boolean opened;
        long time;
        int most = 8;
        Integer[] seal = new Integer[8];
    }

    private static final class Bid {
        int number;
        int bidder;
        long cents;
        Set<Integer> lots = new TreeSet<>();
    }

    private record Step(long above, long below, long cents) { }

    private record Dispute(int bid, int reason) { }

    private final List<List<Step>> lots = new ArrayList<>();
    private final List<Bidder> bidders = new ArrayList<>();
    private final List<Bid> bids = new ArrayList<>();
    private final List<Dispute> disputes = new ArrayList<>();
    private final long[][] indices = new long[60][];
    private List<List<Bid>> foundSales;
    private List<Bid> found;
    private boolean told;

    private static boolean in(long value, long least, long most) {
        return least <= value && value <= most;
    }

    private static boolean isIn(int number, List<?> list) {
        return in(number, 0, list.size() - 1);
    }

    private boolean tellable(int bidder) {
        return isIn(bidder, bidders) && !bidders.get(bidder).opened;
    }

    int lot(long grams) {
        if (lots.size() == 8 || !in(grams, 1, 1000000000)) {
            return -1;
        }
        told = true;
        lots.add(new ArrayList<>());
        return lots.size() - 1;
    }

    int bidder(boolean qualified) {
        if (bidders.size() == 6) {
            return -1;
        }
        told = true;
        Bidder b = new Bidder();
        b.qualified = qualified;
        bidders.add(b);
        return bidders.size() - 1;
    }

    boolean time(int bidder, long ms) {
        if (!tellable(bidder) || !in(ms, 0, 1000000000)) {
            return false;
        }
        told = true;
        bidders.get(bidder).time = ms;
        return true;
    }

    boolean most(int bidder, int most) {
        if (!tellable(bidder) || !in(most, 0, 8)) {
            return false;
        }
        told = true;
        bidders.get(bidder).most = most;
        return true;
    }

    int bid(int bidder, long cents) {
        if (!tellable(bidder) || bids.size() == 12 || !in(cents, 0, 100000000)) {
            return -1;
        }
        told = true;
        Bid b = new Bid();
        b.number = bids.size();
        b.bidder = bidder;
        b.cents = cents;
        bids.add(b);
        return b.number;
    }

    boolean on(int bid, int lot) {
        if (!isIn(bid, bids) || !isIn(lot, lots) || !tellable(bids.get(bid).bidder)
                || bids.get(bid).lots.contains(lot)) {
            return false;
        }
        told = true;
        return bids.get(bid).lots.add(lot);
    }

    int seal(int bidder, int i, int b) {
        if (!tellable(bidder) || !in(i, 0, 7) || !in(b, 0, 255) || bidders.get(bidder).seal[i] != null) {
            return -1;
        }
        told = true;
        bidders.get(bidder).seal[i] = b;
        int count = 0;
        for (Integer had : bidders.get(bidder).seal) {
            count += had == null ? 0 : 1;
        }
        return count;
    }

    int digest(int bidder, long salt, int i) {
        if (!isIn(bidder, bidders) || !in(i, 0, 7)) {
            return -1;
        }
        BigInteger x = BigInteger.valueOf(salt).mod(MODULUS);
        for (Bid b : bids) {
            if (b.bidder == bidder) {
                x = x.add(BigInteger.valueOf(b.cents + 1));
                x = x.multiply(new BigInteger("6364136223846793005")).mod(MODULUS);
                x = x.xor(x.shiftRight(29)).add(BigInteger.ONE);
                for (int l : b.lots) {
                    x = x.add(BigInteger.TWO.pow(l));
                }
                x = x.multiply(new BigInteger("1442695040888963407")).mod(MODULUS);
                x = x.xor(x.shiftRight(31));
            }
        }
        return x.shiftRight(8 * (7 - i)).intValue() & 255;
    }

    int open(int bidder, long salt) {
        if (!tellable(bidder)) {
            return -1;
        }
        for (int i = 0; i < 8; i++) {
            Integer byteTold = bidders.get(bidder).seal[i];
            if (byteTold == null || byteTold != digest(bidder, salt, i)) {
                return -1;
            }
        }
        told = true;
        bidders.get(bidder).opened = true;
        return (int) bids.stream().filter(b -> b.bidder == bidder).count();
    }

    private List<Bid> inPlay() {
        List<Bid> play = new ArrayList<>();
        for (Bid b : bids) {
            Bidder owner = bidders.get(b.bidder);
            if (owner.qualified && owner.opened && !b.lots.isEmpty()) {
                play.add(b);
            }
        }
        return play;
    }

    private boolean isSale(List<Bid> set) {
        Set<Integer> taken = new TreeSet<>();
        int[] had = new int[6];
        for (Bid b : set) {
            for (int l : b.lots) {
                if (!taken.add(l)) {
                    return false;
                }
            }
            had[b.bidder] += b.lots.size();
            if (had[b.bidder] > bidders.get(b.bidder).most) {
                return false;
            }
        }
        return true;
    }

    private static long sumOf(List<Bid> sale) {
        return sale.stream().mapToLong(b -> b.cents).sum();
    }

    private boolean better(List<Bid> one, List<Bid> other, List<Bid> order) {
        if (sumOf(one) != sumOf(other)) {
            return sumOf(one) > sumOf(other);
        }
        for (Bid b : order) {
            if (one.contains(b) != other.contains(b)) {
                return one.contains(b);
            }
        }
        return false;
    }

    int run(long nodes) {
        List<Bid> play = inPlay();
        if (Math.pow(2, play.size()) > nodes) {
            return -1;
        }
        List<Bid> order = new ArrayList<>(bids);
        order.sort(Comparator.<Bid>comparingLong(b -> bidders.get(b.bidder).time)
                .thenComparingInt(b -> b.number));
        foundSales = new ArrayList<>();
        found = new ArrayList<>();
        for (int set = 0; set < 1 << play.size(); set++) {
            List<Bid> sale = new ArrayList<>();
            for (int i = 0; i < play.size(); i++) {
                if ((set >> i & 1) == 1) {
                    sale.add(play.get(i));
                }
            }
            if (isSale(sale)) {
                foundSales.add(sale);
                if (better(sale, found, order)) {
                    found = sale;
                }
            }
        }
        told = false;
        return found.size();
    }

    boolean wins(int bid) {
        return isIn(bid, bids) && found != null && found.contains(bids.get(bid));
    }

    long sum() {
        return found == null ? -1 : sumOf(found);
    }

    long bound() {
        long total = 0;
        for (int l = 0; l < lots.size(); l++) {
            int lot = l;
            total += inPlay().stream().filter(b -> b.lots.contains(lot))
                    .mapToLong(b -> b.cents).max().orElse(0);
        }
        return total;
    }

    boolean proved() {
        return found != null && !told;
    }

    long second(int bid) {
        if (!wins(bid)) {
            return -1;
        }
        Bid b = bids.get(bid);
        long without = foundSales.stream().filter(s -> !s.contains(b))
                .mapToLong(PlainModel::sumOf).max().orElseThrow();
        return b.cents - sum() + without;
    }

    int tie(int k, int which) {
        if (found == null || !in(which, 0, 1)) {
            return -1;
        }
        List<Bid> tied = bids.stream().filter(b -> !found.contains(b)
                && foundSales.stream().anyMatch(s -> sumOf(s) == sum() && s.contains(b))).toList();
        if (!isIn(k, tied)) {
            return -1;
        }
        return which == 0 ? tied.get(k).number : tied.get(k).bidder;
    }

    boolean step(int lot, long above, long below, long cents) {
        if (!isIn(lot, lots) || !in(below, 1, 1000) || !in(above, 0, below)
                || !in(cents, -1000000, 1000000) || lots.get(lot).size() == 6) {
            return false;
        }
        List<Step> steps = lots.get(lot);
        if (!steps.isEmpty()) {
            Step last = steps.get(steps.size() - 1);
            if (above * last.below <= last.above * below) {
                return false;
            }
        }
        told = true;
        return steps.add(new Step(above, below, cents));
    }

    long price(int bid, long above, long below) {
        if (!wins(bid) || !in(below, 1, 1000) || !in(above, 0, below)) {
            return -1;
        }
        long price = bids.get(bid).cents;
        for (int l : bids.get(bid).lots) {
            long acting = 0;
            for (Step s : lots.get(l)) {
                if (s.above * below <= above * s.below) {
                    acting = s.cents;
                }
            }
            price += acting;
        }
        return price < 0 ? 0 : price;
    }

    boolean index(int month, long above, long below) {
        if (!in(month, 0, 59) || !in(above, 1, 1000) || !in(below, 1, 1000) || indices[month] != null) {
            return false;
        }
        told = true;
        indices[month] = new long[] {above, below};
        return true;
    }

    long monthly(int bid, int month) {
        if (!wins(bid) || !in(month, 0, 59)) {
            return -1;
        }
        long price = bids.get(bid).cents;
        for (int m = 0; m <= month; m++) {
            if (indices[m] != null) {
                price = Math.min(1000000000000L, Math.floorDiv(price * indices[m][0], indices[m][1]));
            }
        }
        return price;
    }

    int dispute(int bid, int reason) {
        if (!isIn(bid, bids) || !in(reason, 1, 6) || disputes.size() == 20) {
            return -1;
        }
        told = true;
        disputes.add(new Dispute(bid, reason));
        return disputes.size() - 1;
    }

    int verdict(int dispute) {
        if (!isIn(dispute, disputes)) {
            return -1;
        }
        Dispute d = disputes.get(dispute);
        if (wins(d.bid)) {
            return 2;
        }
        Bid b = bids.get(d.bid);
        Bidder owner = bidders.get(b.bidder);
        boolean[] holds = new boolean[7];
        holds[1] = !owner.qualified;
        holds[2] = !owner.opened;
        holds[3] = b.lots.isEmpty();
        int count = b.lots.size();
        for (Bid other : bids) {
            if (wins(other.number)) {
                holds[4] |= other.lots.stream().anyMatch(b.lots::contains);
                count += other.bidder == b.bidder ? other.lots.size() : 0;
            }
        }
        holds[5] = count > owner.most;
        holds[6] = !(holds[1] || holds[2] || holds[3] || holds[4] || holds[5]);
        return holds[d.reason] ? 1 : 0;
    }
}
