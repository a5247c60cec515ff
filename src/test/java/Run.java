import java.util.ArrayList;
import java.util.List;

/** A run of calls on one object, each written as a text; it can be made anew on another object. */
final class Run {
    static final int MOST_CALLS = 512;

    private final BaleTenders x = new BaleTenders();
    private final List<String> made = new ArrayList<>();

    /** Makes a call; a boolean answer counts 1 or 0. */
    long ask(String call) {
        if (made.size() == MOST_CALLS) {
            throw new IllegalStateException("the document promises nothing of call 513: " + call);
        }
        made.add(call);
        String[] words = call.substring(0, call.length() - 1).split("[(]|, ");
        long[] a = new long[words.length - 1];
        for (int i = 0; i < a.length; i++) {
            a[i] = number(words[i + 1]);
        }
        String name = words[0] + "/" + a.length;
        return isTold(words[0]) ? tell(name, a) : query(name, a);
    }

    int calls() {
        return made.size();
    }

    Run again() {
        Run other = new Run();
        for (String call : made) {
            other.ask(call);
        }
        return other;
    }

    /** Whether a call of this name tells the object something: all but run and those that only tell. */
    static boolean isTold(String name) {
        return List.of("lot", "bidder", "time", "most", "bid", "on", "seal", "open", "step", "index",
                "dispute").contains(name);
    }

    static String nameOf(String call) {
        return call.substring(0, call.indexOf('('));
    }

    private static long number(String word) {
        return switch (word) {
            case "true" -> 1;
            case "false" -> 0;
            case "min" -> Long.MIN_VALUE;
            case "max" -> Long.MAX_VALUE;
            case "intmin" -> Integer.MIN_VALUE;
            case "intmax" -> Integer.MAX_VALUE;
            default -> Long.parseLong(word);
        };
    }

    private static int i(long number) {
        return Math.toIntExact(number);
    }

    private static long as01(boolean answer) {
        return answer ? 1 : 0;
    }

    private long tell(String name, long[] a) {
        return switch (name) {
            case "lot/1" -> x.lot(a[0]);
            case "bidder/1" -> x.bidder(a[0] == 1);
            case "time/2" -> as01(x.time(i(a[0]), a[1]));
            case "most/2" -> as01(x.most(i(a[0]), i(a[1])));
            case "bid/2" -> x.bid(i(a[0]), a[1]);
            case "on/2" -> as01(x.on(i(a[0]), i(a[1])));
            case "seal/3" -> x.seal(i(a[0]), i(a[1]), i(a[2]));
            case "open/2" -> x.open(i(a[0]), a[1]);
            case "step/4" -> as01(x.step(i(a[0]), a[1], a[2], a[3]));
            case "index/3" -> as01(x.index(i(a[0]), a[1], a[2]));
            case "dispute/2" -> x.dispute(i(a[0]), i(a[1]));
            default -> throw new IllegalArgumentException("no call " + name);
        };
    }

    private long query(String name, long[] a) {
        return switch (name) {
            case "digest/3" -> x.digest(i(a[0]), a[1], i(a[2]));
            case "run/1" -> x.run(a[0]);
            case "wins/1" -> as01(x.wins(i(a[0])));
            case "sum/0" -> x.sum();
            case "bound/0" -> x.bound();
            case "proved/0" -> as01(x.proved());
            case "second/1" -> x.second(i(a[0]));
            case "tie/2" -> x.tie(i(a[0]), i(a[1]));
            case "price/3" -> x.price(i(a[0]), a[1], a[2]);
            case "monthly/2" -> x.monthly(i(a[0]), i(a[1]));
            case "verdict/1" -> x.verdict(i(a[0]));
            default -> throw new IllegalArgumentException("no call " + name);
        };
    }
}
