import java.util.ArrayList;
import java.util.LinkedHashMap;
import java.util.List;
import java.util.Map;
import java.util.function.Supplier;

/** All that can be seen of an object: what it tells, and what each change would answer next and lead to. */
final class View {
    /** Making the object and changing it takes 200 calls at most, so with these looks it is used for no more than 512. */
    private static final int LOOKS_AN_OBJECT = 300;
    private static final List<Call> LOOKS = Call.looks();
    private static final List<Call> NEXT = next();

    private View() { }

    /** The changes that show what lies hidden, such as which blobs are stored. */
    private static List<Call> next() {
        List<Call> calls = new ArrayList<>();
        calls.add(new Call("sweep", "", VersionDepot::sweep));
        calls.add(new Call("commit", "", VersionDepot::commit));
        calls.add(new Call("abort", "", VersionDepot::abort));
        calls.add(new Call("merge", "1", depot -> depot.merge(1)));
        calls.add(new Call("turn", "1", depot -> depot.turn(1)));
        calls.add(new Call("pick", "3", depot -> depot.pick(3)));
        calls.add(new Call("reset", "1", depot -> depot.reset(1)));
        calls.add(new Call("stage", "15", depot -> depot.stage(15)));
        return calls;
    }

    /** Each look with its answer; the supplier makes the same object again and again. */
    static Map<String, Integer> of(Supplier<VersionDepot> object) {
        Map<String, Integer> answers = new LinkedHashMap<>();
        VersionDepot depot = null;
        for (int look = 0; look < LOOKS.size(); look++) {
            if (look % LOOKS_AN_OBJECT == 0) {
                depot = object.get();
            }
            answers.put(LOOKS.get(look).toString(), LOOKS.get(look).on(depot));
        }
        for (Call change : NEXT) {
            VersionDepot changed = object.get();
            answers.put("next " + change, change.on(changed));
            for (int what = 0; what < 10; what++) {
                answers.put("count(" + what + ") after " + change, changed.count(what));
            }
        }
        return answers;
    }

    /** Two views are due to be the same. */
    static void same(Check check, String label, Map<String, Integer> before, Map<String, Integer> after) {
        for (Map.Entry<String, Integer> look : before.entrySet()) {
            check.due(label + look.getKey(), after.get(look.getKey()), look.getValue());
        }
    }
}
