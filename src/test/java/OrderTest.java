/** Calls that could answer more than one thing: the document's order tells which. */
public final class OrderTest {
    private static final int REFUSED = VersionDepot.REFUSED;
    private static final int FULL = VersionDepot.FULL;
    private static final int SAME = VersionDepot.SAME;
    private static final int UNTIDY = VersionDepot.UNTIDY;
    private static final int CLASH = VersionDepot.CLASH;

    public static void main(String[] args) {
        Check check = new Check();
        commitInOrder(check);
        commitOfAMergeIsNeverTheSame(check);
        turnRefusesFirst(check);
        turnNeedsTidy(check);
        mergeRefusesFirst(check);
        mergeNeedsTidyNext(check);
        mergeOfALineNeedsNoRoom(check);
        mergeClashesBeforeItIsFull(check);
        pickRefusesFirst(check);
        pickNeedsTidyNext(check);
        pickInOrder(check);
        resetIsTidyOrNot(check);
        tidyMergeUnderWay(check);
        check.end();
    }

    private static void commit(Check check, Situation situation, int due) {
        check.due(situation + ", commit()", situation.make().commit(), due);
    }

    private static void turn(Check check, Situation situation, int branch, int due) {
        check.due(situation + ", turn(" + branch + ")", situation.make().turn(branch), due);
    }

    private static void merge(Check check, Situation situation, int branch, int due) {
        check.due(situation + ", merge(" + branch + ")", situation.make().merge(branch), due);
    }

    private static void pick(Check check, Situation situation, int commit, int due) {
        check.due(situation + ", pick(" + commit + ")", situation.make().pick(commit), due);
    }

    /** Promise 4: "In this order: a file is CLASHING: CLASH. .. SAME. There are 30 commits: FULL. Else its number." */
    private static void commitInOrder(Check check) {
        commit(check, Situation.FULL_CLASHED, CLASH);
        commit(check, Situation.CLASHED, CLASH);
        commit(check, Situation.HALF_SETTLED, CLASH);
        commit(check, Situation.FULL, SAME);
        commit(check, Situation.FULL_SWEPT, SAME);
        commit(check, Situation.NEW, SAME);
        commit(check, Situation.WORK_IS_OTHER, SAME);
        commit(check, Situation.FULL_UNTIDY, FULL);
        commit(check, Situation.FULL_SETTLED, FULL);
        commit(check, Situation.EDITED, 1);
        commit(check, Situation.INDEX_IS_OTHER, 4);
        commit(check, Situation.SETTLED, 4);
    }

    /** Promise 4: "No merge is under way and INDEX is as HERE: SAME." */
    private static void commitOfAMergeIsNeverTheSame(Check check) {
        commit(check, Situation.CLASHED_AS_HERE, CLASH);
        VersionDepot depot = Situation.CLASHED_AS_HERE.make();
        depot.stage(0);
        check.due("commit()", depot.commit(), 4);
        check.due("differ(2, 4)", depot.differ(2, 4), 0);
        check.due("commit()", depot.commit(), SAME);
        VersionDepot full = new VersionDepot();
        Situation.apart(full, new int[] {1}, new int[] {2}, new int[] {3});
        Situation.fill(full, 30);
        check.due("merge(1)", full.merge(1), CLASH);
        full.stage(0);
        check.due("commit()", full.commit(), FULL);
    }

    /** Promise 6: "a branch that is there (else REFUSED, and if a merge is under way): UNTIDY." */
    private static void turnRefusesFirst(Check check) {
        turn(check, Situation.NEW, 0, REFUSED);
        turn(check, Situation.EDITED, 0, REFUSED);
        turn(check, Situation.APART, 2, REFUSED);
        turn(check, Situation.WORK_IS_OTHER, 2, REFUSED);
        turn(check, Situation.CLASHED, 0, REFUSED);
        turn(check, Situation.CLASHED, 1, REFUSED);
        turn(check, Situation.CLASHED, 2, REFUSED);
        turn(check, Situation.SETTLED, 1, REFUSED);
        turn(check, Situation.CLASHED_AS_HERE, 1, REFUSED);
    }

    /** Promise 6: "UNTIDY. Else INDEX and WORK become the contents of its commit: the commit." */
    private static void turnNeedsTidy(Check check) {
        for (int branch = 0; branch <= 1; branch++) {
            turn(check, Situation.WORK_IS_OTHER, branch, UNTIDY);
            turn(check, Situation.INDEX_IS_OTHER, branch, UNTIDY);
            turn(check, Situation.BOTH_ARE_OTHER, branch, UNTIDY);
            turn(check, Situation.FULL_UNTIDY, branch, UNTIDY);
        }
        turn(check, Situation.APART, 0, 2);
        turn(check, Situation.APART, 1, 3);
        turn(check, Situation.FULL, 0, 30);
    }

    /** Promise 7: "REFUSED if it is not, if HERE is 0, or if a merge is under way". */
    private static void mergeRefusesFirst(Check check) {
        merge(check, Situation.NEW, 0, REFUSED);
        merge(check, Situation.EDITED, 0, REFUSED);
        merge(check, Situation.APART, 2, REFUSED);
        merge(check, Situation.WORK_IS_OTHER, 2, REFUSED);
        for (int branch = 0; branch <= 2; branch++) {
            merge(check, Situation.CLASHED, branch, REFUSED);
            merge(check, Situation.SETTLED, branch, REFUSED);
            merge(check, Situation.CLASHED_AS_HERE, branch, REFUSED);
        }
    }

    /** Promise 7: "Not TIDY: UNTIDY", before all that may come of the merge. */
    private static void mergeNeedsTidyNext(Check check) {
        for (int branch = 0; branch <= 1; branch++) {
            merge(check, Situation.WORK_IS_OTHER, branch, UNTIDY);
            merge(check, Situation.INDEX_IS_OTHER, branch, UNTIDY);
            merge(check, Situation.BOTH_ARE_OTHER, branch, UNTIDY);
            merge(check, Situation.OPPOSED_UNTIDY, branch, UNTIDY);
            merge(check, Situation.FULL_UNTIDY, branch, UNTIDY);
        }
        VersionDepot line = Situation.IN_LINE.make();
        line.write(15, 9);
        for (int branch = 0; branch <= 2; branch++) {
            check.due("merge(" + branch + ")", line.merge(branch), UNTIDY);
        }
    }

    /** Promise 7: "c is an ancestor of HERE: 0. HERE is an ancestor of c: .. c", whether there are 30 commits or not. */
    private static void mergeOfALineNeedsNoRoom(Check check) {
        merge(check, Situation.IN_LINE, 0, 0);
        merge(check, Situation.IN_LINE, 1, 0);
        merge(check, Situation.IN_LINE, 2, 3);
        merge(check, Situation.FULL, 0, 0);
        VersionDepot full = Situation.FULL.make();
        full.branch(2);
        full.reset(2);
        check.due("merge(2)", full.merge(2), 30);
        check.contents(full, 0, 9030, 2);
        full.branch(3);
        check.due("merge(3)", full.merge(3), 0);
    }

    /** Promise 7: "No CLASH: there are 30 commits: FULL", "Else .. CLASH". */
    private static void mergeClashesBeforeItIsFull(Check check) {
        merge(check, Situation.FULL, 1, FULL);
        merge(check, Situation.FULL_OPPOSED, 1, CLASH);
        merge(check, Situation.OPPOSED, 1, CLASH);
        merge(check, Situation.APART, 1, 4);
    }

    /** Promise 9: "REFUSED if c is not stored, HERE is 0, or a merge is under way." */
    private static void pickRefusesFirst(Check check) {
        pick(check, Situation.NEW, 0, REFUSED);
        pick(check, Situation.EDITED, 1, REFUSED);
        pick(check, Situation.APART, 4, REFUSED);
        pick(check, Situation.WORK_IS_OTHER, 4, REFUSED);
        pick(check, Situation.WORK_IS_OTHER, 0, REFUSED);
        pick(check, Situation.SWEPT, 2, REFUSED);
        pick(check, Situation.FULL_SWEPT, 30, REFUSED);
        for (int commit = 0; commit <= 4; commit++) {
            pick(check, Situation.CLASHED, commit, REFUSED);
            pick(check, Situation.SETTLED, commit, REFUSED);
            pick(check, Situation.CLASHED_AS_HERE, commit, REFUSED);
        }
    }

    /** Promise 9: "UNTIDY", before all that may come of the pick. */
    private static void pickNeedsTidyNext(Check check) {
        for (int commit = 1; commit <= 3; commit++) {
            pick(check, Situation.WORK_IS_OTHER, commit, UNTIDY);
            pick(check, Situation.INDEX_IS_OTHER, commit, UNTIDY);
            pick(check, Situation.BOTH_ARE_OTHER, commit, UNTIDY);
            pick(check, Situation.OPPOSED_UNTIDY, commit, UNTIDY);
            pick(check, Situation.FULL_UNTIDY, commit, UNTIDY);
        }
    }

    /** Promise 9: "with a CLASH: CLASH; as HERE: SAME; 30 commits: FULL; else .. its number". */
    private static void pickInOrder(Check check) {
        pick(check, Situation.OPPOSED, 3, CLASH);
        pick(check, Situation.FULL_OPPOSED, 3, CLASH);
        VersionDepot asHere = new VersionDepot();
        Situation.apart(asHere, new int[] {1}, new int[] {2}, new int[] {3});
        // The one file that changed clashes and stays as HERE has it.
        check.due("pick(3)", asHere.pick(3), CLASH);
        pick(check, Situation.APART, 1, SAME);
        pick(check, Situation.APART, 2, SAME);
        pick(check, Situation.FULL, 30, SAME);
        pick(check, Situation.FULL, 2, SAME);
        pick(check, Situation.FULL, 3, FULL);
        pick(check, Situation.FULL_SWEPT, 1, SAME);
        pick(check, Situation.FULL_SWEPT, 3, FULL);
        pick(check, Situation.APART, 3, 4);
    }

    /** Promise 10: "tidy or not: 0. REFUSED if it is not stored, or a merge is under way." */
    private static void resetIsTidyOrNot(Check check) {
        Situation[] without = {Situation.APART, Situation.WORK_IS_OTHER, Situation.INDEX_IS_OTHER, Situation.BOTH_ARE_OTHER,
            Situation.FULL, Situation.FULL_UNTIDY};
        for (Situation situation : without) {
            VersionDepot depot = situation.make();
            check.due(situation + ", reset(3)", depot.reset(3), 0);
            check.contents(depot, 0, 1, 0, 3);
            check.contents(depot, 1, 1, 0, 3);
            check.due("branchAt(0)", depot.branchAt(0), 3);
            check.due("branchAt(1)", depot.branchAt(1), 3);
        }
        Situation[] under = {Situation.CLASHED, Situation.HALF_SETTLED, Situation.SETTLED, Situation.CLASHED_AS_HERE};
        for (Situation situation : under) {
            VersionDepot depot = situation.make();
            for (int commit = 0; commit <= 4; commit++) {
                check.refused(situation + ", reset(" + commit + ")", depot.reset(commit));
            }
        }
        check.refused("reset(0)", Situation.EDITED.make().reset(0));
        check.refused("reset(1)", Situation.EDITED.make().reset(1));
    }

    /** Terms: TIDY looks at WORK, INDEX and HERE; a merge is under way until it is over, though all three are alike. */
    private static void tidyMergeUnderWay(Check check) {
        VersionDepot depot = Situation.CLASHED_AS_HERE.make();
        check.contents(depot, 0, 2);
        check.contents(depot, 1, 2);
        check.due("count(7)", depot.count(7), 3);
        check.due("count(8)", depot.count(8), 1);
        check.due("branch(2)", depot.branch(2), 0);
        check.due("remove(1)", depot.remove(1), 0);
        check.due("abort()", depot.abort(), 0);
        check.due("turn(2)", depot.turn(2), 2);
    }
}
