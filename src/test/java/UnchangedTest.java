import java.util.ArrayList;
import java.util.List;
import java.util.Map;
import java.util.Set;
import java.util.TreeMap;
import java.util.TreeSet;

/** Terms: "A call that answers a number below 0 changes nothing, but for merge as said." */
public final class UnchangedTest {
    /** With them and those of a view an object is used for less than 512 calls. */
    private static final int LOOKS_AT_ONCE = 50;
    /** Every answer below 0 that the document gives to a call; all others never answer below 0. */
    private static final Map<String, Set<Integer>> BELOW_0 = new TreeMap<>(Map.of(
        "write", Set.of(VersionDepot.REFUSED),
        "stage", Set.of(VersionDepot.REFUSED),
        "commit", Set.of(VersionDepot.CLASH, VersionDepot.SAME, VersionDepot.FULL),
        "branch", Set.of(VersionDepot.REFUSED),
        "turn", Set.of(VersionDepot.REFUSED, VersionDepot.UNTIDY),
        "merge", Set.of(VersionDepot.REFUSED, VersionDepot.UNTIDY, VersionDepot.FULL, VersionDepot.CLASH),
        "abort", Set.of(VersionDepot.REFUSED),
        "pick", Set.of(VersionDepot.REFUSED, VersionDepot.UNTIDY, VersionDepot.CLASH, VersionDepot.SAME,
            VersionDepot.FULL),
        "reset", Set.of(VersionDepot.REFUSED),
        "remove", Set.of(VersionDepot.REFUSED)));

    public static void main(String[] args) {
        Check check = new Check();
        noAnswerBelow0Changes(check);
        looksChangeNothing(check);
        clashOfMergeChangesWhatIsSaid(check, Situation.OPPOSED, 2, 4, 5);
        clashOfMergeChangesWhatIsSaid(check, Situation.FULL_OPPOSED, 9030, 4, 5);
        check.end();
    }

    private static void noAnswerBelow0Changes(Check check) {
        Map<String, Set<Integer>> seen = new TreeMap<>();
        for (Situation situation : Situation.values()) {
            Map<String, Integer> before = View.of(situation::make);
            for (Call call : Call.changes()) {
                int answer = call.on(situation.make());
                if (answer >= 0) {
                    continue;
                }
                seen.computeIfAbsent(call.method(), method -> new TreeSet<>()).add(answer);
                if (!call.method().equals("merge") || answer != VersionDepot.CLASH) {
                    unchanged(check, situation, call, before);
                }
            }
        }
        check.due("answers below 0 that were seen, " + seen + ", are those of the document", seen.equals(BELOW_0), true);
    }

    private static void unchanged(Check check, Situation situation, Call call, Map<String, Integer> before) {
        Map<String, Integer> after = View.of(() -> {
            VersionDepot depot = situation.make();
            call.on(depot);
            return depot;
        });
        View.same(check, situation + ", " + call + ": ", before, after);
    }

    /** Neither those that tell something nor those that are refused. */
    private static void looksChangeNothing(Check check) {
        List<Call> looks = Call.looks();
        for (Situation situation : Situation.values()) {
            Map<String, Integer> before = View.of(situation::make);
            for (int first = 0; first < looks.size(); first += LOOKS_AT_ONCE) {
                List<Call> some = looks.subList(first, Math.min(first + LOOKS_AT_ONCE, looks.size()));
                Map<String, Integer> after = View.of(() -> {
                    VersionDepot depot = situation.make();
                    some.forEach(look -> look.on(depot));
                    return depot;
                });
                View.same(check, situation + ", after looks: ", before, after);
            }
        }
    }

    /** INDEX, WORK and the merge under way are other than before, and nothing that is stored, no branch and not HEAD. */
    private static void clashOfMergeChangesWhatIsSaid(Check check, Situation situation, int... mixture) {
        VersionDepot merged = situation.make();
        check.due("merge(1)", merged.merge(1), VersionDepot.CLASH);
        check.contents(merged, 0, mixture);
        check.contents(merged, 1, mixture);
        check.due("count(7)", merged.count(7), 3);
        check.due("count(8)", merged.count(8), 2);
        for (int file = 0; file < 16; file++) {
            check.due("clashing(" + file + ")", merged.clashing(file), file == 0 || file == 2);
        }
        Map<String, Integer> before = View.of(situation::make);
        Map<String, Integer> after = View.of(() -> {
            VersionDepot depot = situation.make();
            depot.merge(1);
            return depot;
        });
        for (String look : new ArrayList<>(before.keySet())) {
            if (look.startsWith("content(") || look.startsWith("clashing(") || look.contains("next ")
                || look.contains("after ") || look.equals("count(7)") || look.equals("count(8)")) {
                before.remove(look);
            }
        }
        View.same(check, "after merge(1): ", before, after);
    }
}
