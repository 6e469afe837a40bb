/** Promise 12. */
public final class SweepTest {
    public static void main(String[] args) {
        Check check = new Check();
        keepsWhatBranchesLeadTo(check);
        keepsBlobsOfIndexAlone(check);
        keepsBothParents(check);
        keepsTheMergesCommit(check);
        keepsWhatIsShared(check);
        storesAgainWhatWasSwept(check);
        takesTheEmptyRoot(check);
        takesACommitBetweenOthers(check);
        changesNothingElse(check);
        check.end();
    }

    private static void keepsWhatBranchesLeadTo(Check check) {
        VersionDepot depot = new VersionDepot();
        check.commit(depot, 1, 1);
        check.commit(depot, 2, 2);
        depot.branch(5);
        check.commit(depot, 3, 3);
        check.due("sweep()", depot.sweep(), 0);
        depot.reset(1);
        check.due("sweep()", depot.sweep(), 4);
        check.stored(depot, 2, 2, 2, 2);
        check.due("count(4)", depot.count(4), 3);
        check.due("at(2, 0)", depot.at(2, 0), 2);
        check.due("at(3, 0)", depot.at(3, 0), VersionDepot.REFUSED);
        check.due("parent(3, 0)", depot.parent(3, 0), VersionDepot.REFUSED);
        check.due("remove(5)", depot.remove(5), 0);
        check.due("sweep()", depot.sweep(), 4);
        check.stored(depot, 1, 1, 1, 1);
        check.due("sweep()", depot.sweep(), 0);
        check.commit(depot, 4, 4);
    }

    private static void keepsBlobsOfIndexAlone(Check check) {
        VersionDepot depot = new VersionDepot();
        check.put(depot, 0, 7);
        check.put(depot, 0, 8);
        check.put(depot, 15, 9999);
        depot.write(0, 7);
        check.due("sweep()", depot.sweep(), 1);
        check.stored(depot, 2, 0, 0, 0);
        depot.write(15, 0);
        check.due("sweep()", depot.sweep(), 0);
        depot.stage(15);
        check.due("sweep()", depot.sweep(), 1);
        check.stored(depot, 1, 0, 0, 0);
        check.contents(depot, 0, 7);
        check.contents(depot, 1, 8);
    }

    private static void keepsBothParents(Check check) {
        VersionDepot depot = new VersionDepot();
        check.commit(depot, 1, 1);
        depot.branch(1);
        check.commit(depot, 2, 1, 2);
        depot.turn(1);
        check.commit(depot, 3, 1, 0, 3);
        check.due("merge(0)", depot.merge(0), 4);
        depot.remove(0);
        check.due("sweep()", depot.sweep(), 0);
        check.due("common(4, 2)", depot.common(4, 2), 2);
        check.due("reset(3)", depot.reset(3), 0);
        // Commits 2 and 4 with a root and a folder each, and the blob 2.
        check.due("sweep()", depot.sweep(), 7);
        check.stored(depot, 2, 2, 2, 2);
    }

    private static void keepsTheMergesCommit(Check check) {
        VersionDepot depot = new VersionDepot();
        check.commit(depot, 1, 1);
        depot.branch(1);
        check.commit(depot, 2, 2);
        check.commit(depot, 3, 3);
        depot.turn(1);
        check.commit(depot, 4, 4);
        check.due("merge(0)", depot.merge(0), VersionDepot.CLASH);
        depot.remove(0);
        check.due("sweep()", depot.sweep(), 0);
        check.due("at(2, 0)", depot.at(2, 0), 2);
        check.put(depot, 0, 5);
        check.due("sweep()", depot.sweep(), 0);
        check.due("abort()", depot.abort(), 0);
        // Commits 2 and 3 with a root, a folder and a blob each, and the blob 5.
        check.due("sweep()", depot.sweep(), 9);
        check.stored(depot, 2, 2, 2, 2);
    }

    private static void keepsWhatIsShared(Check check) {
        VersionDepot depot = new VersionDepot();
        check.commit(depot, 1, 1, 2);
        check.commit(depot, 2, 1, 2, 0, 0, 2, 1);
        check.commit(depot, 3, 1, 2, 0, 0, 0, 0);
        check.stored(depot, 2, 2, 2, 3);
        depot.reset(1);
        check.due("sweep()", depot.sweep(), 4);
        check.stored(depot, 2, 1, 1, 1);
    }

    private static void storesAgainWhatWasSwept(Check check) {
        VersionDepot depot = new VersionDepot();
        check.commit(depot, 1, 1);
        check.commit(depot, 2, 2);
        depot.reset(1);
        check.due("sweep()", depot.sweep(), 4);
        check.commit(depot, 3, 2);
        check.stored(depot, 2, 2, 2, 2);
        check.committed(depot, 3, 2);
        check.due("at(2, 0)", depot.at(2, 0), VersionDepot.REFUSED);
        check.due("sweep()", depot.sweep(), 0);
    }

    private static void takesTheEmptyRoot(Check check) {
        VersionDepot depot = new VersionDepot();
        check.commit(depot, 1, 1);
        check.commit(depot, 2, 0);
        check.due("sweep()", depot.sweep(), 0);
        check.stored(depot, 1, 1, 2, 2);
        depot.reset(1);
        check.due("sweep()", depot.sweep(), 2);
        check.stored(depot, 1, 1, 1, 1);
    }

    private static void takesACommitBetweenOthers(Check check) {
        for (int file = 0; file < 16; file++) {
            VersionDepot depot = new VersionDepot();
            check.commit(depot, 1, 1);
            check.put(depot, file, 2);
            check.due("commit()", depot.commit(), 2);
            check.due("reset(1)", depot.reset(1), 0);
            check.put(depot, 15 - file, 3);
            check.due("commit()", depot.commit(), 3);
            // Commit 2 with its root, its folder and its blob.
            check.due("sweep() without file " + file, depot.sweep(), 4);
            check.stored(depot, 2, 2, 2, 2);
            check.due("at(3, " + (15 - file) + ")", depot.at(3, 15 - file), 3);
            check.refused("at(2, " + file + ")", depot.at(2, file));
            check.refused("reset(2)", depot.reset(2));
        }
    }

    private static void changesNothingElse(Check check) {
        VersionDepot depot = new VersionDepot();
        check.commit(depot, 1, 1);
        depot.branch(2);
        check.commit(depot, 2, 2);
        depot.turn(2);
        check.commit(depot, 3, 3, 4);
        check.due("merge(0)", depot.merge(0), VersionDepot.CLASH);
        depot.write(9, 9);
        check.due("sweep()", depot.sweep(), 0);
        check.contents(depot, 0, 3, 4, 0, 0, 0, 0, 0, 0, 0, 9);
        check.contents(depot, 1, 3, 4);
        check.due("clashing(0)", depot.clashing(0), true);
        check.due("count(5)", depot.count(5), 2);
        check.due("count(6)", depot.count(6), 3);
        check.due("count(7)", depot.count(7), 2);
        check.due("branchAt(0)", depot.branchAt(0), 2);
    }
}
