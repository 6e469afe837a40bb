/** Promise 9. */
public final class PickTest {
    public static void main(String[] args) {
        Check check = new Check();
        pickBringsAChange(check);
        pickRefuses(check);
        pickNeedsTidy(check);
        pickClashChangesNothing(check);
        pickOfTheSame(check);
        pickOfAFirstCommit(check);
        pickOfAMerge(check);
        pickWhenFull(check);
        pickOfACommitNoBranchLeadsTo(check);
        check.end();
    }

    private static VersionDepot twoBranches(Check check) {
        VersionDepot depot = new VersionDepot();
        check.commit(depot, 1, 1, 1);
        depot.branch(1);
        check.commit(depot, 2, 2, 1);
        check.commit(depot, 3, 2, 3, 4);
        check.due("turn(1)", depot.turn(1), 1);
        return depot;
    }

    private static void pickBringsAChange(Check check) {
        VersionDepot depot = twoBranches(check);
        check.due("pick(3)", depot.pick(3), 4);
        check.committed(depot, 4, 1, 3, 4);
        check.contents(depot, 0, 1, 3, 4);
        check.contents(depot, 1, 1, 3, 4);
        check.due("parent(4, 0)", depot.parent(4, 0), 1);
        check.due("parent(4, 1)", depot.parent(4, 1), 0);
        check.due("branchAt(1)", depot.branchAt(1), 4);
        check.due("branchAt(0)", depot.branchAt(0), 3);
        check.due("common(3, 4)", depot.common(3, 4), 1);
        check.due("pick(2)", depot.pick(2), 5);
        check.due("differ(3, 5)", depot.differ(3, 5), 0);
        check.due("parent(5, 0)", depot.parent(5, 0), 4);
        check.stored(depot, 4, 4, 4, 5);
    }

    private static void pickRefuses(Check check) {
        VersionDepot depot = new VersionDepot();
        check.due("pick(0)", depot.pick(0), VersionDepot.REFUSED);
        check.due("pick(1)", depot.pick(1), VersionDepot.REFUSED);
        check.commit(depot, 1, 1);
        check.commit(depot, 2, 2);
        depot.reset(1);
        depot.sweep();
        depot.write(0, 9);
        int[] bad = {-1, 0, 2, 3, 31, 32, 33, Integer.MIN_VALUE, Integer.MAX_VALUE};
        for (int commit : bad) {
            check.due("pick(" + commit + ")", depot.pick(commit), VersionDepot.REFUSED);
        }
    }

    private static void pickNeedsTidy(Check check) {
        VersionDepot depot = twoBranches(check);
        depot.write(15, 1);
        check.due("pick(3)", depot.pick(3), VersionDepot.UNTIDY);
        depot.stage(15);
        check.due("pick(3)", depot.pick(3), VersionDepot.UNTIDY);
        depot.write(15, 0);
        check.due("pick(3)", depot.pick(3), VersionDepot.UNTIDY);
        check.due("count(6)", depot.count(6), 1);
        depot.stage(15);
        check.due("pick(3)", depot.pick(3), 4);
    }

    private static void pickClashChangesNothing(Check check) {
        VersionDepot depot = twoBranches(check);
        check.commit(depot, 4, 1, 7);
        check.due("pick(3)", depot.pick(3), VersionDepot.CLASH);
        check.contents(depot, 0, 1, 7);
        check.contents(depot, 1, 1, 7);
        check.due("count(4)", depot.count(4), 4);
        check.due("count(6)", depot.count(6), 4);
        check.due("count(7)", depot.count(7), 0);
        check.due("count(8)", depot.count(8), 0);
        check.due("clashing(1)", depot.clashing(1), false);
        check.due("commit()", depot.commit(), VersionDepot.SAME);
    }

    private static void pickOfTheSame(Check check) {
        VersionDepot depot = twoBranches(check);
        check.due("pick(1)", depot.pick(1), VersionDepot.SAME);
        check.due("pick(2)", depot.pick(2), 4);
        check.due("pick(2)", depot.pick(2), VersionDepot.SAME);
        check.due("pick(4)", depot.pick(4), VersionDepot.SAME);
        check.due("count(4)", depot.count(4), 4);
    }

    private static void pickOfAFirstCommit(Check check) {
        VersionDepot depot = twoBranches(check);
        check.commit(depot, 4, 0, 1);
        check.due("pick(1)", depot.pick(1), 5);
        check.committed(depot, 5, 1, 1);
        check.commit(depot, 6, 8, 1);
        check.due("pick(1)", depot.pick(1), VersionDepot.CLASH);
    }

    private static void pickOfAMerge(Check check) {
        VersionDepot depot = twoBranches(check);
        check.commit(depot, 4, 1, 1, 0, 6);
        check.due("merge(0)", depot.merge(0), 5);
        depot.branch(2);
        check.due("reset(1)", depot.reset(1), 0);
        // Against its first parent, commit 4, the merge brought what branch 0 had, and not file 3.
        check.due("pick(5)", depot.pick(5), 6);
        check.committed(depot, 6, 2, 3, 4);
    }

    private static void pickWhenFull(Check check) {
        VersionDepot depot = twoBranches(check);
        check.fill(depot);
        check.due("pick(3)", depot.pick(3), VersionDepot.FULL);
        check.due("pick(2)", depot.pick(2), VersionDepot.CLASH);
        check.due("pick(30)", depot.pick(30), VersionDepot.SAME);
        check.due("count(6)", depot.count(6), 30);
        check.contents(depot, 0, 9030, 1);
    }

    private static void pickOfACommitNoBranchLeadsTo(Check check) {
        VersionDepot depot = new VersionDepot();
        check.commit(depot, 1, 1);
        check.commit(depot, 2, 1, 2);
        depot.reset(1);
        check.commit(depot, 3, 3);
        check.due("pick(2)", depot.pick(2), 4);
        check.committed(depot, 4, 3, 2);
    }
}
