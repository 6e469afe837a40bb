/** What is empty: content 0, folders and roots that are all 0, commit 0, HERE that is 0, and no merge. */
public final class ZeroTest {
    public static void main(String[] args) {
        Check check = new Check();
        hereIs0AtFirst(check);
        hereIs0Refuses(check);
        contentOf0IsNoBlob(check);
        folderOf0sIsNotStored(check);
        folderWithOneFileIsStored(check);
        rootOf0sIsStored(check);
        firstCommitHasNoParents(check);
        firstCommitIsNotOf0s(check);
        commit0IsNotStored(check);
        pickAgainstCommit0(check);
        noMergeIsUnderWay(check);
        abortEndsAMergeOnce(check);
        sweepOfNothing(check);
        sweepBeforeTheFirstCommit(check);
        takenAwayFilesAreClashes(check);
        differOf0(check);
        check.end();
    }

    /** Terms: "HEAD is a branch, 0 at first, when no branch is there. HERE is .. 0 if it is not there". */
    private static void hereIs0AtFirst(Check check) {
        VersionDepot depot = Situation.EDITED.make();
        check.due("count(5)", depot.count(5), 0);
        check.due("count(6)", depot.count(6), 0);
        check.due("branchAt(0)", depot.branchAt(0), 0);
        check.due("commit()", depot.commit(), 1);
        check.due("count(6)", depot.count(6), 1);
        check.due("branchAt(0)", depot.branchAt(0), 1);
    }

    /** Promises 5, 7 and 9: "REFUSED if HERE is 0", and there is no branch or commit for 6, 10 and 11. */
    private static void hereIs0Refuses(Check check) {
        for (Situation situation : new Situation[] {Situation.NEW, Situation.EDITED}) {
            VersionDepot depot = situation.make();
            for (int number = 0; number <= 5; number++) {
                check.refused("branch(" + number + ")", depot.branch(number));
                check.refused("turn(" + number + ")", depot.turn(number));
                check.refused("merge(" + number + ")", depot.merge(number));
                check.refused("pick(" + number + ")", depot.pick(number));
                check.refused("reset(" + number + ")", depot.reset(number));
                check.refused("remove(" + number + ")", depot.remove(number));
            }
            check.refused("abort()", depot.abort());
        }
    }

    /** Promise 3: "its blob is stored, unless it is 0". */
    private static void contentOf0IsNoBlob(Check check) {
        VersionDepot depot = new VersionDepot();
        for (int file = 0; file < 16; file++) {
            check.due("stage(" + file + ")", depot.stage(file), 0);
        }
        check.stored(depot, 0, 0, 0, 0);
        check.put(depot, 0, 1);
        check.stored(depot, 1, 0, 0, 0);
        check.put(depot, 0, 0);
        check.stored(depot, 1, 0, 0, 0);
        check.due("content(1, 0)", depot.content(1, 0), 0);
    }

    /** Terms: "FOLDERS, one for each row of four contents .. that are not all 0". */
    private static void folderOf0sIsNotStored(Check check) {
        VersionDepot depot = Situation.ONE_COMMIT.make();
        check.stored(depot, 1, 1, 1, 1);
        check.commit(depot, 2, 0, 0, 0, 0, 2);
        check.stored(depot, 2, 2, 2, 2);
        check.committed(depot, 2, 0, 0, 0, 0, 2);
    }

    /** One content in any place is enough for a folder. */
    private static void folderWithOneFileIsStored(Check check) {
        for (int file = 0; file < 16; file++) {
            VersionDepot depot = new VersionDepot();
            Situation.put(depot, file, 1);
            check.due("commit()", depot.commit(), 1);
            check.stored(depot, 1, 1, 1, 1);
            for (int other = 0; other < 16; other++) {
                check.due("at(1, " + other + ")", depot.at(1, other), other == file ? 1 : 0);
            }
        }
    }

    /** Terms: "ROOTS, one for each row of sixteen contents", of sixteen 0s too. */
    private static void rootOf0sIsStored(Check check) {
        VersionDepot depot = Situation.ONE_COMMIT.make();
        check.commit(depot, 2, 0);
        check.stored(depot, 1, 1, 2, 2);
        check.committed(depot, 2);
        check.commit(depot, 3, 1);
        check.commit(depot, 4, 0);
        check.stored(depot, 1, 1, 2, 4);
        check.due("commit()", depot.commit(), VersionDepot.SAME);
        check.due("sweep()", depot.sweep(), 0);
    }

    /** Promise 4: "its parents HERE (if it is not 0)"; promise 15: "0 if it has not so many". */
    private static void firstCommitHasNoParents(Check check) {
        VersionDepot depot = Situation.ONE_COMMIT.make();
        check.due("parent(1, 0)", depot.parent(1, 0), 0);
        check.due("parent(1, 1)", depot.parent(1, 1), 0);
        check.due("common(1, 1)", depot.common(1, 1), 1);
    }

    /** Promise 4: "INDEX is as HERE: SAME", and "the commit 0 has all contents 0". */
    private static void firstCommitIsNotOf0s(Check check) {
        VersionDepot depot = new VersionDepot();
        check.due("commit()", depot.commit(), VersionDepot.SAME);
        check.put(depot, 15, 1);
        check.put(depot, 15, 0);
        check.due("commit()", depot.commit(), VersionDepot.SAME);
        check.stored(depot, 1, 0, 0, 0);
        check.due("count(4)", depot.count(4), 0);
    }

    /** Promises 9, 10, 14, 15, 17 and 18 ask for a stored commit, and commit 0 is none. */
    private static void commit0IsNotStored(Check check) {
        VersionDepot depot = Situation.APART.make();
        check.refused("at(0, 0)", depot.at(0, 0));
        check.refused("parent(0, 0)", depot.parent(0, 0));
        check.refused("common(0, 0)", depot.common(0, 0));
        check.refused("common(0, 1)", depot.common(0, 1));
        check.refused("common(1, 0)", depot.common(1, 0));
        check.refused("differ(0, 0)", depot.differ(0, 0));
        check.refused("differ(0, 1)", depot.differ(0, 1));
        check.refused("differ(1, 0)", depot.differ(1, 0));
        check.refused("pick(0)", depot.pick(0));
        check.refused("reset(0)", depot.reset(0));
        check.due("count(6)", depot.count(6), 2);
    }

    /** Promise 9: "against its first parent (commit 0 if it has none)". */
    private static void pickAgainstCommit0(Check check) {
        VersionDepot depot = new VersionDepot();
        check.commit(depot, 1, 1, 2);
        check.commit(depot, 2, 0, 0, 3);
        // Both files are new against commit 0, and HERE has neither.
        check.due("pick(1)", depot.pick(1), 3);
        check.committed(depot, 3, 1, 2, 3);
        check.due("parent(3, 0)", depot.parent(3, 0), 2);
        check.due("pick(1)", depot.pick(1), VersionDepot.SAME);
        check.commit(depot, 4, 0, 9);
        check.due("pick(1)", depot.pick(1), VersionDepot.CLASH);
    }

    /** Promise 8: "The merge under way (else REFUSED)"; promise 20: "the merge's commit (7; 0 if none is under way)". */
    private static void noMergeIsUnderWay(Check check) {
        Situation[] without = {Situation.NEW, Situation.EDITED, Situation.ONE_COMMIT, Situation.OPPOSED,
            Situation.OPPOSED_UNTIDY, Situation.FULL};
        for (Situation situation : without) {
            VersionDepot depot = situation.make();
            check.refused(situation + ", abort()", depot.abort());
            check.due("count(7)", depot.count(7), 0);
            check.due("count(8)", depot.count(8), 0);
        }
        VersionDepot merged = Situation.APART.make();
        merged.merge(1);
        check.refused("abort()", merged.abort());
        check.due("count(7)", merged.count(7), 0);
        VersionDepot committed = Situation.SETTLED.make();
        committed.commit();
        check.refused("abort()", committed.abort());
        check.due("count(7)", committed.count(7), 0);
    }

    /** Promise 8: "is over, INDEX and WORK are as HERE: 0", whether files are CLASHING still or not. */
    private static void abortEndsAMergeOnce(Check check) {
        for (Situation situation : new Situation[] {Situation.CLASHED, Situation.HALF_SETTLED, Situation.SETTLED}) {
            VersionDepot depot = situation.make();
            depot.write(15, 9);
            check.due("count(7)", depot.count(7), 3);
            check.due(situation + ", abort()", depot.abort(), 0);
            check.refused("abort()", depot.abort());
            check.contents(depot, 0, 2, 1, 5);
            check.contents(depot, 1, 2, 1, 5);
            check.due("count(6)", depot.count(6), 2);
            check.due("count(7)", depot.count(7), 0);
            check.due("count(8)", depot.count(8), 0);
            check.due("commit()", depot.commit(), VersionDepot.SAME);
            check.due("merge(1)", depot.merge(1), VersionDepot.CLASH);
            check.due("count(8)", depot.count(8), 2);
        }
    }

    /** Promise 12: "how many objects went": none. */
    private static void sweepOfNothing(Check check) {
        VersionDepot depot = new VersionDepot();
        check.due("sweep()", depot.sweep(), 0);
        check.due("sweep()", depot.sweep(), 0);
        check.stored(depot, 0, 0, 0, 0);
        check.due("commit()", depot.commit(), VersionDepot.SAME);
        check.commit(depot, 1, 1);
    }

    /** Promise 12: "and the blobs of INDEX", though there is no branch yet; WORK has none. */
    private static void sweepBeforeTheFirstCommit(Check check) {
        VersionDepot depot = Situation.EDITED.make();
        check.due("sweep()", depot.sweep(), 0);
        check.stored(depot, 1, 0, 0, 0);
        depot.write(0, 0);
        check.due("sweep()", depot.sweep(), 0);
        depot.stage(0);
        check.due("sweep()", depot.sweep(), 1);
        check.stored(depot, 0, 0, 0, 0);
        check.contents(depot, 0, 0, 6);
    }

    /** Terms, MIX: content 0 is a content like any other; one side took a file away that the other changed. */
    private static void takenAwayFilesAreClashes(Check check) {
        VersionDepot depot = new VersionDepot();
        Situation.apart(depot, new int[] {1, 1, 1}, new int[] {0, 2, 0}, new int[] {2, 0, 0});
        check.due("merge(1)", depot.merge(1), VersionDepot.CLASH);
        check.due("clashing(0)", depot.clashing(0), true);
        check.due("clashing(1)", depot.clashing(1), true);
        check.due("clashing(2)", depot.clashing(2), false);
        check.contents(depot, 0, 0, 2, 0);
        check.contents(depot, 1, 0, 2, 0);
        // Both are settled as they stand, file 0 with content 0, which has no blob.
        depot.stage(0);
        depot.stage(1);
        check.due("commit()", depot.commit(), 4);
        check.committed(depot, 4, 0, 2);
    }

    /** Promise 18: none to sixteen files, content 0 among them. */
    private static void differOf0(Check check) {
        VersionDepot depot = new VersionDepot();
        check.commit(depot, 1, 1, 1, 1, 1, 1, 1, 1, 1, 1, 1, 1, 1, 1, 1, 1, 1);
        check.commit(depot, 2, 0, 0, 0, 0, 0, 0, 0, 0, 0, 0, 0, 0, 0, 0, 0, 0);
        check.due("differ(1, 2)", depot.differ(1, 2), 16);
        for (int file = 0; file < 16; file++) {
            Situation.put(depot, file, 1);
            check.due("commit()", depot.commit(), 3 + file);
            check.due("differ(1, " + (3 + file) + ")", depot.differ(1, 3 + file), 15 - file);
            check.due("differ(2, " + (3 + file) + ")", depot.differ(2, 3 + file), 1 + file);
        }
    }
}
