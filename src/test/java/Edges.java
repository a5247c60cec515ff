import java.util.ArrayList;
import java.util.List;

/**
 * Tests of the document's sentences that name a boundary case: what is due there, and that a call
 * that is refused leaves all later answers as they would be without it.
 */
final class Edges {
    private String sentence = "";
    private Run run = new Run();
    private int tested;
    private int wrong;

    /** Begins the test of a sentence, on a new object. */
    void sentence(String words) {
        sentence = words;
        run = new Run();
        tested++;
    }

    /** Goes on with a sentence on a new object. */
    void anew() {
        run = new Run();
    }

    void due(String call, long want) {
        dueOf(run, call, want);
    }

    /** Makes calls that are all to be taken. */
    void tell(String... calls) {
        for (String call : calls) {
            long refusal = refusalOf(call);
            if (run.ask(call) == refusal) {
                fault(call + " was refused");
            }
        }
    }

    /** Makes calls that are all to be refused, or to answer NONE, and to change nothing. */
    void refused(String... calls) {
        for (boolean found : new boolean[] {false, true}) {
            for (Later later : Later.values()) {
                List<String> without = later.answers(start(found));
                for (String call : calls) {
                    Run with = start(found);
                    refuse(with, call, found);
                    compare(call, without, later.answers(with));
                }
            }
        }
        refusedNow(calls);
    }

    /** The same where too few of the 512 calls are left to ask what came of it. */
    void refusedNow(String... calls) {
        for (String call : calls) {
            dueOf(run, call, refusalOf(call));
        }
    }

    void lots(int count) {
        for (int l = 0; l < count; l++) {
            tell("lot(1000)");
        }
    }

    /** Bidders that are qualified. */
    void bidders(int count) {
        for (int b = 0; b < count; b++) {
            tell("bidder(true)");
        }
    }

    /** A bid on lots; answers its number. */
    int bid(int bidder, long cents, int... lots) {
        int number = (int) run.ask("bid(" + bidder + ", " + cents + ")");
        if (number < 0) {
            fault("a bid of " + cents + " was refused");
        }
        for (int lot : lots) {
            tell("on(" + number + ", " + lot + ")");
        }
        return number;
    }

    /** One lot, and for each of some cents a bidder with a bid of these on it. */
    void rivals(long... cents) {
        lots(1);
        bidders(cents.length);
        for (int b = 0; b < cents.length; b++) {
            bid(b, cents[b], 0);
        }
    }

    /** Tells the whole seal of bidders, by their digests as their bids are. */
    void sealWhole(int... bidders) {
        for (int bidder : bidders) {
            for (int i = 0; i < 8; i++) {
                sealByte(bidder, i);
            }
        }
    }

    /** Tells one byte of a bidder's seal, by its digest as its bids are. */
    void sealByte(int bidder, int i) {
        tell("seal(" + bidder + ", " + i + ", " + digest(bidder, i) + ")");
    }

    /** A byte of a bidder's digest, asked of another object, so that it is no call of this one. */
    long digest(int bidder, int i) {
        return run.again().ask("digest(" + bidder + ", " + Later.SALT + ", " + i + ")");
    }

    void open(int... bidders) {
        for (int bidder : bidders) {
            sealWhole(bidder);
            tell("open(" + bidder + ", " + Later.SALT + ")");
        }
    }

    /** Runs, and compares who wins. */
    void dueWinners(int... bids) {
        due("run(4096)", bids.length);
        dueWinnersStill(bids);
    }

    void dueWinnersStill(int... bids) {
        int set = 0;
        for (int bid : bids) {
            set |= 1 << bid;
        }
        for (int bid = 0; bid < 12; bid++) {
            due("wins(" + bid + ")", set >> bid & 1);
        }
    }

    int calls() {
        return run.calls();
    }

    void end() {
        System.out.println(tested + " sentences tested, " + wrong + " answers are not as due");
        if (wrong != 0 || tested == 0) {
            System.exit(1);
        }
    }

    private static long refusalOf(String call) {
        return switch (Run.nameOf(call)) {
            case "time", "most", "on", "step", "index", "wins" -> 0;
            default -> -1;
        };
    }

    private Run start(boolean found) {
        Run start = run.again();
        if (found) {
            start.ask("run(4096)");
        }
        return start;
    }

    /** After a run that finds, what only tells may answer otherwise; what is refused may not. */
    private void refuse(Run with, String call, boolean found) {
        if (found && !Run.isTold(Run.nameOf(call))) {
            with.ask(call);
            return;
        }
        dueOf(with, call, refusalOf(call));
        if (found) {
            dueOf(with.again(), "proved()", 1);
        }
    }

    private void compare(String call, List<String> without, List<String> with) {
        List<String> changed = new ArrayList<>();
        for (int i = 0; i < without.size(); i++) {
            if (!without.get(i).equals(with.get(i))) {
                changed.add(with.get(i) + " (not: " + without.get(i) + ")");
            }
        }
        if (!changed.isEmpty()) {
            fault(call + " changed " + changed.size() + " later answers, first " + changed.get(0));
        }
    }

    private void dueOf(Run asked, String call, long want) {
        long got = asked.ask(call);
        if (got != want) {
            fault(call + " answered " + got + ", due is " + want);
        }
    }

    private void fault(String what) {
        wrong++;
        System.out.println(sentence + ": " + what);
    }
}
