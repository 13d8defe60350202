import java.util.ArrayList;
import java.util.HashMap;
import java.util.List;
import java.util.Map;

/**
 * Whether a refused call changes nothing: of two markets with the same past only one gets the call, and then
 * both answer every question the same, before and after the next changes.
 */
final class Untouched {
    private static final int ASKED_AT_ONCE = 150;
    /** Many calls come to the same past, and what is due then is the same. */
    private static final Map<String, Untouched> KNOWN = new HashMap<>();

    private final String past;
    private final List<List<String>> runs = new ArrayList<>();
    private final List<List<Object>> due = new ArrayList<>();

    private Untouched(String past) {
        this.past = past;
        Stage look = Stage.ofMarket(past);
        int lots = look.count("lots");
        int bids = look.count("bids");
        List<String> questions = questions(look, lots, bids);
        runs.addAll(changes(lots, bids));
        addChunks(questions, List.of());
        addChunks(questions, List.of("close"));
        for (List<String> run : runs) {
            due.add(answers(Stage.ofMarket(past), run));
        }
    }

    /** Answers "nothing" or the first difference. */
    static String difference(String past, String refused) {
        return KNOWN.computeIfAbsent(past, Untouched::new).differenceAfter(refused);
    }

    private String differenceAfter(String refused) {
        for (int i = 0; i < runs.size(); i++) {
            Stage tried = Stage.ofMarket(past);
            tried.call(refused);
            List<Object> got = answers(tried, runs.get(i));
            for (int call = 0; call < got.size(); call++) {
                if (!due.get(i).get(call).equals(got.get(call))) {
                    return runs.get(i).get(call) + " answers " + got.get(call) + " instead of "
                            + due.get(i).get(call);
                }
            }
        }
        return "nothing";
    }

    private static List<Object> answers(Stage stage, List<String> run) {
        List<Object> answers = new ArrayList<>();
        for (String call : run) {
            answers.add(stage.call(call));
        }
        return answers;
    }

    private void addChunks(List<String> questions, List<String> before) {
        for (int from = 0; from < questions.size(); from += ASKED_AT_ONCE) {
            List<String> run = new ArrayList<>(before);
            run.addAll(questions.subList(from, Math.min(questions.size(), from + ASKED_AT_ONCE)));
            runs.add(run);
        }
    }

    private static List<String> questions(Stage look, int lots, int bids) {
        List<String> all = new ArrayList<>(List.of("lots", "bids", "openLots", "openBids", "surplus",
                "surplusBySets", "takings", "soldShare", "meanPaid"));
        for (int number = 0; number < 8; number++) {
            all.add("surplusWithout " + number);
        }
        for (int number = 0; number < 4 * 5; number++) {
            all.add("countOf " + number / 5 + " " + (char) ('a' + number % 5));
        }
        for (int lot = 0; lot < lots; lot++) {
            addAll(all, " " + lot, "fibreOf", "gradeOf", "reserveOf", "lotState", "soldTo");
        }
        for (int bid = 0; bid < bids; bid++) {
            addAll(all, " " + bid, "items", "priceOf", "stateOf", "reason", "rival", "paid", "costOf", "wouldWin",
                    "wouldWinBySets", "payment");
            int items = look.count("items " + bid);
            for (int item = 0; item < items; item++) {
                addAll(all, " " + bid + " " + item, "fitting", "lotOf", "lotFor");
                for (int lot = 0; lot < lots; lot++) {
                    all.add("fits " + lot + " " + bid + " " + item);
                }
            }
        }
        return all;
    }

    private static void addAll(List<String> all, String values, String... methods) {
        for (String method : methods) {
            all.add(method + values);
        }
    }

    /** Runs of changes whose answers tell what no question tells, such as how many rules there are. */
    private static List<List<String>> changes(int lots, int bids) {
        List<String> rules = new ArrayList<>(List.of("allow 0 1 0", "allow 0 2 0"));
        for (int i = 0; i < 7; i++) {
            rules.add("forbid");
        }
        List<String> bidders = new ArrayList<>();
        List<String> ends = new ArrayList<>();
        for (int bid = 0; bid < bids; bid++) {
            for (int i = 0; i < 4; i++) {
                bidders.add("ask " + bid + " 3 e");
            }
            bidders.add("raise " + bid + " 9999");
            ends.add("cancel " + bid);
        }
        for (int lot = 0; lot < lots; lot++) {
            ends.add("withdraw " + lot);
        }
        return List.of(rules, bidders, ends, List.of("offer 3 b 5", "bid 7 9000", "close", "takings"));
    }
}
