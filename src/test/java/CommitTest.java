/** Promises 4 (commit), 14 (at), 15 (parent), 18 (differ) and the objects that a commit stores. */
public final class CommitTest {
    public static void main(String[] args) {
        Check check = new Check();
        commitTakesIndexNotWork(check);
        sameIsAgainstHere(check);
        objectsAreStoredOnce(check);
        emptyCommitHasARootAlone(check);
        fullAtThirty(check);
        fullCountsSweptCommits(check);
        atRefuses(check);
        parentRefuses(check);
        differCounts(check);
        check.end();
    }

    private static void commitTakesIndexNotWork(Check check) {
        VersionDepot depot = new VersionDepot();
        check.put(depot, 0, 1);
        depot.write(0, 2);
        depot.write(15, 7);
        check.due("commit()", depot.commit(), 1);
        check.committed(depot, 1, 1);
        check.contents(depot, 0, 2, 0, 0, 0, 0, 0, 0, 0, 0, 0, 0, 0, 0, 0, 0, 7);
        check.contents(depot, 1, 1);
        check.due("branchAt(0)", depot.branchAt(0), 1);
        check.due("count(6)", depot.count(6), 1);
        check.due("parent(1, 0)", depot.parent(1, 0), 0);
        check.due("parent(1, 1)", depot.parent(1, 1), 0);
        depot.stage(15);
        check.due("commit()", depot.commit(), 2);
        check.committed(depot, 2, 1, 0, 0, 0, 0, 0, 0, 0, 0, 0, 0, 0, 0, 0, 0, 7);
        check.committed(depot, 1, 1);
        check.due("parent(2, 0)", depot.parent(2, 0), 1);
        check.due("parent(2, 1)", depot.parent(2, 1), 0);
        check.due("count(4)", depot.count(4), 2);
    }

    private static void sameIsAgainstHere(Check check) {
        VersionDepot depot = new VersionDepot();
        check.due("commit()", depot.commit(), VersionDepot.SAME);
        depot.write(0, 1);
        check.due("commit()", depot.commit(), VersionDepot.SAME);
        check.due("branchAt(0)", depot.branchAt(0), 0);
        check.commit(depot, 1, 1);
        check.due("commit()", depot.commit(), VersionDepot.SAME);
        check.commit(depot, 2, 2);
        // Back to what commit 1 had is not the same as HERE.
        check.commit(depot, 3, 1);
        check.stored(depot, 2, 2, 2, 3);
    }

    private static void objectsAreStoredOnce(Check check) {
        VersionDepot depot = new VersionDepot();
        check.commit(depot, 1, 5, 6, 0, 0, 5, 6, 0, 0, 6, 5);
        check.stored(depot, 2, 2, 1, 1);
        check.commit(depot, 2, 5, 6, 0, 0, 5, 6, 0, 0, 5, 6);
        check.stored(depot, 2, 2, 2, 2);
        // The same folders in other places are another root.
        check.commit(depot, 3, 0, 0, 0, 0, 5, 6, 0, 0, 5, 6, 0, 0, 5, 6);
        check.stored(depot, 2, 2, 3, 3);
    }

    private static void emptyCommitHasARootAlone(Check check) {
        VersionDepot depot = new VersionDepot();
        check.commit(depot, 1, 1);
        check.commit(depot, 2, 0);
        check.stored(depot, 1, 1, 2, 2);
        check.committed(depot, 2);
        check.due("differ(1, 2)", depot.differ(1, 2), 1);
    }

    private static void fullAtThirty(Check check) {
        VersionDepot depot = new VersionDepot();
        check.fill(depot);
        check.due("commit()", depot.commit(), VersionDepot.SAME);
        check.put(depot, 3, 1);
        check.due("commit()", depot.commit(), VersionDepot.FULL);
        check.due("count(3)", depot.count(3), 30);
        check.due("count(4)", depot.count(4), 30);
        check.due("count(6)", depot.count(6), 30);
        check.contents(depot, 1, 9030, 0, 0, 1);
        check.due("at(30, 0)", depot.at(30, 0), 9030);
        check.due("at(31, 0)", depot.at(31, 0), VersionDepot.REFUSED);
        check.due("parent(30, 0)", depot.parent(30, 0), 29);
    }

    /** Commits are numbered to 30 at most, so a sweep makes no room for more. */
    private static void fullCountsSweptCommits(Check check) {
        VersionDepot depot = new VersionDepot();
        check.fill(depot);
        check.due("reset(1)", depot.reset(1), 0);
        check.due("sweep()", depot.sweep(), 29 * 4);
        check.put(depot, 3, 1);
        check.due("commit()", depot.commit(), VersionDepot.FULL);
        check.due("count(3)", depot.count(3), 1);
        check.due("count(4)", depot.count(4), 30);
    }

    private static void atRefuses(Check check) {
        VersionDepot depot = new VersionDepot();
        check.commit(depot, 1, 1);
        int[] badCommits = {-1, 0, 2, 30, 31, 32, 33, 65, Integer.MIN_VALUE, Integer.MAX_VALUE};
        for (int commit : badCommits) {
            check.due("at(" + commit + ", 0)", depot.at(commit, 0), VersionDepot.REFUSED);
        }
        int[] badFiles = {-1, 16, Integer.MIN_VALUE, Integer.MAX_VALUE};
        for (int file : badFiles) {
            check.due("at(1, " + file + ")", depot.at(1, file), VersionDepot.REFUSED);
        }
    }

    private static void parentRefuses(Check check) {
        VersionDepot depot = new VersionDepot();
        check.commit(depot, 1, 1);
        check.commit(depot, 2, 2);
        int[] badCommits = {-1, 0, 3, 31, 33, Integer.MIN_VALUE, Integer.MAX_VALUE};
        for (int commit : badCommits) {
            check.due("parent(" + commit + ", 0)", depot.parent(commit, 0), VersionDepot.REFUSED);
        }
        int[] badParents = {-1, 2, Integer.MIN_VALUE, Integer.MAX_VALUE};
        for (int which : badParents) {
            check.due("parent(2, " + which + ")", depot.parent(2, which), VersionDepot.REFUSED);
        }
    }

    private static void differCounts(Check check) {
        VersionDepot depot = new VersionDepot();
        check.commit(depot, 1, 1, 2, 3, 4, 1, 2, 3, 4, 1, 2, 3, 4, 1, 2, 3, 4);
        check.commit(depot, 2, 5, 6, 7, 8, 5, 6, 7, 8, 5, 6, 7, 8, 5, 6, 7, 8);
        check.commit(depot, 3, 1, 6, 7, 8, 5, 6, 7, 8, 5, 6, 7, 8, 5, 6, 7, 0);
        check.due("differ(1, 2)", depot.differ(1, 2), 16);
        check.due("differ(2, 1)", depot.differ(2, 1), 16);
        check.due("differ(2, 3)", depot.differ(2, 3), 2);
        check.due("differ(1, 3)", depot.differ(1, 3), 15);
        check.due("differ(3, 3)", depot.differ(3, 3), 0);
        int[] bad = {-1, 0, 4, 31, 33, Integer.MIN_VALUE, Integer.MAX_VALUE};
        for (int commit : bad) {
            check.due("differ(1, " + commit + ")", depot.differ(1, commit), VersionDepot.REFUSED);
            check.due("differ(" + commit + ", 1)", depot.differ(commit, 1), VersionDepot.REFUSED);
        }
    }
}
