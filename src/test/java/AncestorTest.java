/** Terms: a commit's "ANCESTORS are itself, its parents, their parents and so on". */
public final class AncestorTest {
    public static void main(String[] args) {
        Check check = new Check();
        itselfIsAnAncestor(check);
        secondParentsAreAncestors(check);
        forwardThroughSecondParents(check);
        ancestorsOfEveryAge(check);
        sweepKeepsSecondParents(check);
        sweepKeepsTheMergesAncestors(check);
        parentsAreSmaller(check);
        baseIsTheGreatest(check);
        pickedCommitsAreNoAncestors(check);
        check.end();
    }

    /** Commit 4 merges 2 and 3, which are apart since 1; HEAD is branch 0 at 4, branch 1 is at 3. */
    private static VersionDepot merged(Check check) {
        VersionDepot depot = Situation.APART.make();
        check.due("merge(1)", depot.merge(1), 4);
        return depot;
    }

    /** Promise 7: "c is an ancestor of HERE: 0", HERE itself too. */
    private static void itselfIsAnAncestor(Check check) {
        VersionDepot depot = Situation.ONE_COMMIT.make();
        check.due("merge(0)", depot.merge(0), 0);
        depot.branch(1);
        check.due("merge(1)", depot.merge(1), 0);
        check.due("common(1, 1)", depot.common(1, 1), 1);
        check.due("count(4)", depot.count(4), 1);
    }

    private static void secondParentsAreAncestors(Check check) {
        VersionDepot depot = merged(check);
        check.due("merge(1)", depot.merge(1), 0);
        check.commit(depot, 5, 8);
        check.due("merge(1)", depot.merge(1), 0);
        check.due("common(5, 3)", depot.common(5, 3), 3);
        check.due("common(3, 5)", depot.common(3, 5), 3);
        check.due("common(5, 2)", depot.common(5, 2), 2);
    }

    /** Promise 7: "HERE is an ancestor of c: HEAD is at c, INDEX and WORK as it: c". */
    private static void forwardThroughSecondParents(Check check) {
        VersionDepot depot = merged(check);
        check.commit(depot, 5, 8);
        check.due("turn(1)", depot.turn(1), 3);
        check.due("merge(0)", depot.merge(0), 5);
        check.due("branchAt(1)", depot.branchAt(1), 5);
        check.due("count(5)", depot.count(5), 1);
        check.due("count(4)", depot.count(4), 5);
        check.contents(depot, 0, 8, 2, 3);
        check.contents(depot, 1, 8, 2, 3);
    }

    /** Promise 17: "The greatest number of a common ancestor", each of the 30 once. */
    private static void ancestorsOfEveryAge(Check check) {
        VersionDepot depot = new VersionDepot();
        Situation.fill(depot, 30);
        for (int commit = 1; commit <= 30; commit++) {
            check.due("common(30, " + commit + ")", depot.common(30, commit), commit);
            check.due("common(" + commit + ", 30)", depot.common(commit, 30), commit);
            check.due("common(1, " + commit + ")", depot.common(1, commit), 1);
        }
        depot.branch(1);
        check.due("reset(1)", depot.reset(1), 0);
        check.due("merge(1)", depot.merge(1), 30);
        depot.turn(1);
        check.due("reset(1)", depot.reset(1), 0);
        depot.turn(0);
        check.due("merge(1)", depot.merge(1), 0);
    }

    /** Promise 12: "all objects but the ancestors of the commits that branches are at". */
    private static void sweepKeepsSecondParents(Check check) {
        VersionDepot depot = merged(check);
        check.commit(depot, 5, 8);
        depot.remove(1);
        check.due("sweep()", depot.sweep(), 0);
        check.due("count(3)", depot.count(3), 5);
        check.committed(depot, 3, 1, 0, 3);
        check.due("reset(2)", depot.reset(2), 0);
        // Commits 3, 4 and 5 with a root and a folder each, and the blobs 3 and 8.
        check.due("sweep()", depot.sweep(), 11);
        check.stored(depot, 2, 2, 2, 2);
        check.refused("at(3, 0)", depot.at(3, 0));
    }

    /** Promise 12: "and of the merge's commit", its ancestors as well as itself. */
    private static void sweepKeepsTheMergesAncestors(Check check) {
        VersionDepot depot = new VersionDepot();
        check.commit(depot, 1, 1);
        depot.branch(1);
        check.commit(depot, 2, 2);
        depot.turn(1);
        check.commit(depot, 3, 1, 6);
        check.commit(depot, 4, 3, 6);
        depot.turn(0);
        check.due("merge(1)", depot.merge(1), VersionDepot.CLASH);
        check.due("remove(1)", depot.remove(1), 0);
        check.due("sweep()", depot.sweep(), 0);
        check.stored(depot, 4, 4, 4, 4);
        check.due("at(3, 1)", depot.at(3, 1), 6);
        depot.stage(0);
        check.due("commit()", depot.commit(), 5);
        check.due("parent(5, 1)", depot.parent(5, 1), 4);
        check.due("sweep()", depot.sweep(), 0);
        check.due("reset(2)", depot.reset(2), 0);
        // Commits 3, 4 and 5 with a root and a folder each, and the blobs 6 and 3.
        check.due("sweep()", depot.sweep(), 11);
        check.stored(depot, 2, 2, 2, 2);
    }

    /** Terms: "one or two parents, or none (commits with smaller numbers)". */
    private static void parentsAreSmaller(Check check) {
        VersionDepot depot = merged(check);
        Situation.fill(depot, 30);
        for (int commit = 1; commit <= 30; commit++) {
            check.due("parent(" + commit + ", 0)", depot.parent(commit, 0), commit == 3 ? 1 : commit - 1 - (commit == 4 ? 1 : 0));
            check.due("parent(" + commit + ", 1)", depot.parent(commit, 1), commit == 4 ? 3 : 0);
        }
    }

    /** Promise 7: "MIXED with their common ancestor of the greatest number". */
    private static void baseIsTheGreatest(Check check) {
        VersionDepot depot = new VersionDepot();
        check.commit(depot, 1, 1);
        check.commit(depot, 2, 2);
        depot.branch(1);
        check.commit(depot, 3, 2, 5);
        depot.turn(1);
        check.commit(depot, 4, 1);
        depot.turn(0);
        // Against commit 2, HERE left file 0 and the other changed it back; against 1 it would be HERE's change.
        check.due("common(3, 4)", depot.common(3, 4), 2);
        check.due("merge(1)", depot.merge(1), 5);
        check.committed(depot, 5, 1, 5);
    }

    /** Promise 9: "a commit of it is MADE with the parent HERE", and no other. */
    private static void pickedCommitsAreNoAncestors(Check check) {
        VersionDepot depot = Situation.APART.make();
        check.due("pick(3)", depot.pick(3), 4);
        check.due("parent(4, 0)", depot.parent(4, 0), 2);
        check.due("parent(4, 1)", depot.parent(4, 1), 0);
        check.due("common(3, 4)", depot.common(3, 4), 1);
        check.due("merge(1)", depot.merge(1), 5);
        check.due("differ(4, 5)", depot.differ(4, 5), 0);
    }
}
