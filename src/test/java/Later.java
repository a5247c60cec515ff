import java.util.ArrayList;
import java.util.List;

/**
 * Ways to go on with an object, so that together their answers tell whatever a call before them may
 * have changed. Each way needs an object of its own, as it changes it too.
 */
enum Later {
    ASK_OF_THE_SALE {
        @Override
        void go(Questions q) {
            askOfTheSale(q);
            askDigests(q);
        }
    },
    ASK_OF_PRICES_AND_DISPUTES {
        @Override
        void go(Questions q) {
            askOfPrices(q);
        }
    },
    FILL_UP {
        @Override
        void go(Questions q) {
            fillUp(q);
        }
    },
    PUT_BIDS_ON_LOTS {
        @Override
        void go(Questions q) {
            for (int bid = 0; bid < 12; bid++) {
                for (int lot = 0; lot < 8; lot++) {
                    q.ask("on(" + bid + ", " + lot + ")");
                }
            }
            askDigests(q);
            q.ask("bound()");
        }
    },
    OPEN_AND_RUN {
        @Override
        void go(Questions q) {
            openAll(q);
            q.ask("run(4096)");
            askOfTheSale(q);
        }
    },
    OPEN_AND_RUN_FOR_PRICES {
        @Override
        void go(Questions q) {
            openAll(q);
            q.ask("run(4096)");
            askOfPrices(q);
        }
    };

    /** The salt that tests seal with, so that what they sealed can be opened here. */
    static final long SALT = 7;

    abstract void go(Questions q);

    List<String> answers(Run run) {
        Questions q = new Questions(run);
        go(q);
        return q.answers;
    }

    static final class Questions {
        private final Run run;
        private final List<String> answers = new ArrayList<>();

        Questions(Run run) {
            this.run = run;
        }

        long ask(String call) {
            long answer = run.ask(call);
            answers.add(call + " = " + answer);
            return answer;
        }
    }

    private static void askOfTheSale(Questions q) {
        q.ask("proved()");
        q.ask("sum()");
        q.ask("bound()");
        for (int bid = 0; bid < 12; bid++) {
            q.ask("wins(" + bid + ")");
            q.ask("second(" + bid + ")");
            q.ask("tie(" + bid + ", 0)");
        }
    }

    private static void askDigests(Questions q) {
        for (int bidder = 0; bidder < 6; bidder++) {
            for (int i = 0; i < 8; i++) {
                q.ask("digest(" + bidder + ", " + SALT + ", " + i + ")");
            }
        }
    }

    private static void askOfPrices(Questions q) {
        int[] months = {0, 1, 58, 59};
        for (int bid = 0; bid < 12; bid++) {
            for (int share = 0; share <= 6; share++) {
                q.ask("price(" + bid + ", " + share + ", 6)");
            }
            for (int month : months) {
                q.ask("monthly(" + bid + ", " + month + ")");
            }
        }
        for (int dispute = 0; dispute < 20; dispute++) {
            q.ask("verdict(" + dispute + ")");
        }
    }

    /** The numbers that come next tell how many there were; months and steps, which were told. */
    private static void fillUp(Questions q) {
        for (int more = 0; more < 9; more++) {
            q.ask("lot(1)");
        }
        for (int more = 0; more < 7; more++) {
            q.ask("bidder(true)");
        }
        for (int month = 0; month < 60; month++) {
            q.ask("index(" + month + ", 1, 1)");
        }
        for (int lot = 0; lot < 8; lot++) {
            for (int share = 0; share <= 6; share++) {
                q.ask("step(" + lot + ", " + share + ", 6, 1)");
            }
        }
        for (int more = 0; more < 13; more++) {
            q.ask("bid(" + more % 6 + ", 1)");
        }
        for (int more = 0; more < 21; more++) {
            q.ask("dispute(0, 6)");
        }
    }

    private static void openAll(Questions q) {
        for (int bidder = 0; bidder < 6; bidder++) {
            for (int i = 0; i < 8; i++) {
                long b = q.ask("digest(" + bidder + ", " + SALT + ", " + i + ")");
                q.ask("seal(" + bidder + ", " + i + ", " + b + ")");
            }
            q.ask("open(" + bidder + ", " + SALT + ")");
        }
    }
}
