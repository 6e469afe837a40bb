import java.util.ArrayList;
import java.util.List;
import java.util.function.ToIntFunction;

/** One call with its arguments, ready to be made on any object. */
record Call(String method, String arguments, ToIntFunction<VersionDepot> body) {
    private static final int[] FILES = {Integer.MIN_VALUE, -1, 0, 1, 15, 16, Integer.MAX_VALUE};
    private static final int[] CONTENTS = {Integer.MIN_VALUE, -1, 0, 1, 9999, 10000, Integer.MAX_VALUE};
    private static final int[] PLACES = {Integer.MIN_VALUE, -1, 0, 1, 2, Integer.MAX_VALUE};

    int on(VersionDepot depot) {
        return body.applyAsInt(depot);
    }

    @Override
    public String toString() {
        return method + "(" + arguments + ")";
    }

    private static int[] from(int first, int last) {
        int[] numbers = new int[last - first + 1];
        for (int place = 0; place < numbers.length; place++) {
            numbers[place] = first + place;
        }
        return numbers;
    }

    /** The calls that may change something, with arguments inside and outside of what is allowed. */
    static List<Call> changes() {
        List<Call> calls = new ArrayList<>();
        for (int file : FILES) {
            for (int content : CONTENTS) {
                calls.add(new Call("write", file + ", " + content, depot -> depot.write(file, content)));
            }
            calls.add(new Call("stage", "" + file, depot -> depot.stage(file)));
        }
        calls.add(new Call("commit", "", VersionDepot::commit));
        for (int branch : from(-1, 6)) {
            calls.add(new Call("branch", "" + branch, depot -> depot.branch(branch)));
            calls.add(new Call("turn", "" + branch, depot -> depot.turn(branch)));
            calls.add(new Call("merge", "" + branch, depot -> depot.merge(branch)));
            calls.add(new Call("remove", "" + branch, depot -> depot.remove(branch)));
        }
        calls.add(new Call("abort", "", VersionDepot::abort));
        for (int commit : from(-1, 33)) {
            calls.add(new Call("pick", "" + commit, depot -> depot.pick(commit)));
            calls.add(new Call("reset", "" + commit, depot -> depot.reset(commit)));
        }
        calls.add(new Call("sweep", "", VersionDepot::sweep));
        return calls;
    }

    /** The calls that tell all that there is to be told, and those just outside. */
    static List<Call> looks() {
        List<Call> calls = new ArrayList<>();
        for (int what : from(-1, 10)) {
            calls.add(new Call("count", "" + what, depot -> depot.count(what)));
        }
        for (int branch : from(-1, 6)) {
            calls.add(new Call("branchAt", "" + branch, depot -> depot.branchAt(branch)));
        }
        for (int file : from(-1, 16)) {
            calls.add(new Call("clashing", "" + file, depot -> depot.clashing(file) ? 1 : 0));
            for (int where : PLACES) {
                calls.add(new Call("content", where + ", " + file, depot -> depot.content(where, file)));
            }
        }
        for (int commit : from(-1, 31)) {
            looksAt(commit, calls);
        }
        return calls;
    }

    private static void looksAt(int commit, List<Call> calls) {
        for (int file : from(-1, 16)) {
            calls.add(new Call("at", commit + ", " + file, depot -> depot.at(commit, file)));
        }
        for (int which : PLACES) {
            calls.add(new Call("parent", commit + ", " + which, depot -> depot.parent(commit, which)));
        }
        for (int other : from(-1, 31)) {
            calls.add(new Call("common", commit + ", " + other, depot -> depot.common(commit, other)));
            calls.add(new Call("differ", commit + ", " + other, depot -> depot.differ(commit, other)));
        }
    }
}
