/** The limits that the document names: 30 commits, six branches, sixteen files in four folders, 9999 contents, 512 calls. */
public final class LimitTest {
    private static final int FULL = VersionDepot.FULL;

    public static void main(String[] args) {
        Check check = new Check();
        thirtiethByCommit(check);
        thirtiethByMerge(check);
        thirtiethByCommitOfAMerge(check);
        thirtiethByPick(check);
        sweepMakesNoRoom(check);
        refusedCommitsTakeNoNumber(check);
        sweptNumbersStayTaken(check);
        everyContentHasItsBlob(check);
        everyFileHasItsFolder(check);
        oneBlobsFoldersAndRootsAreShared(check);
        aHundredAndTwentyFolders(check);
        sixBranchesAtOnce(check);
        sixteenFilesOfWork(check);
        theLastCallAnswers(check);
        check.end();
    }

    /** None of the calls that make commits makes one more. */
    private static void isFull(Check check, VersionDepot depot) {
        check.due("count(4)", depot.count(4), 30);
        Situation.put(depot, 14, 7);
        check.due("commit()", depot.commit(), FULL);
        Situation.put(depot, 14, 0);
        check.due("merge(1)", depot.merge(1), FULL);
        check.due("pick(3)", depot.pick(3), FULL);
        check.due("count(4)", depot.count(4), 30);
        check.refused("at(31, 0)", depot.at(31, 0));
    }

    /** Terms: "COMMITS are numbered 1, 2, .. as they are made, at most 30"; promise 4: "There are 30 commits: FULL". */
    private static void thirtiethByCommit(Check check) {
        VersionDepot depot = Situation.APART.make();
        for (int number = 4; number <= 30; number++) {
            check.commit(depot, number, 9000 + number);
        }
        check.due("parent(30, 0)", depot.parent(30, 0), 29);
        isFull(check, depot);
    }

    /** Promise 7: "there are 30 commits: FULL; else a commit of the mixture is MADE". */
    private static void thirtiethByMerge(Check check) {
        VersionDepot depot = Situation.APART.make();
        Situation.fill(depot, 29);
        check.due("merge(1)", depot.merge(1), 30);
        check.committed(depot, 30, 9029, 2, 3);
        check.due("parent(30, 0)", depot.parent(30, 0), 29);
        check.due("parent(30, 1)", depot.parent(30, 1), 3);
        check.due("count(6)", depot.count(6), 30);
        check.due("reset(29)", depot.reset(29), 0);
        isFull(check, depot);
    }

    /** Promise 4 with a merge under way. */
    private static void thirtiethByCommitOfAMerge(Check check) {
        VersionDepot depot = Situation.OPPOSED.make();
        Situation.fill(depot, 29);
        check.due("merge(1)", depot.merge(1), VersionDepot.CLASH);
        depot.stage(0);
        depot.stage(2);
        check.due("commit()", depot.commit(), 30);
        check.due("parent(30, 0)", depot.parent(30, 0), 29);
        check.due("parent(30, 1)", depot.parent(30, 1), 3);
        check.due("count(7)", depot.count(7), 0);
        check.due("commit()", depot.commit(), VersionDepot.SAME);
        Situation.put(depot, 14, 7);
        check.due("commit()", depot.commit(), FULL);
    }

    /** Promise 9: "30 commits: FULL; else a commit of it is MADE". */
    private static void thirtiethByPick(Check check) {
        VersionDepot depot = Situation.APART.make();
        Situation.fill(depot, 29);
        check.due("pick(3)", depot.pick(3), 30);
        check.committed(depot, 30, 9029, 2, 3);
        check.due("parent(30, 0)", depot.parent(30, 0), 29);
        check.due("parent(30, 1)", depot.parent(30, 1), 0);
        check.due("reset(29)", depot.reset(29), 0);
        isFull(check, depot);
    }

    /** Terms: numbers go to "at most 30", so the 30 commits are those ever made. */
    private static void sweepMakesNoRoom(Check check) {
        VersionDepot depot = Situation.FULL_SWEPT.make();
        check.due("count(3)", depot.count(3), 2);
        check.due("pick(3)", depot.pick(3), FULL);
        check.due("merge(1)", depot.merge(1), 3);
        Situation.put(depot, 14, 7);
        check.due("commit()", depot.commit(), FULL);
        check.due("count(4)", depot.count(4), 30);
        check.refused("at(2, 0)", depot.at(2, 0));
        VersionDepot apart = Situation.FULL.make();
        apart.reset(2);
        apart.sweep();
        check.due("count(3)", apart.count(3), 3);
        check.due("merge(1)", apart.merge(1), FULL);
    }

    /** Terms: "A call that answers a number below 0 changes nothing", not the next commit's number either. */
    private static void refusedCommitsTakeNoNumber(Check check) {
        VersionDepot depot = Situation.OPPOSED.make();
        check.due("commit()", depot.commit(), VersionDepot.SAME);
        check.due("pick(3)", depot.pick(3), VersionDepot.CLASH);
        check.due("pick(2)", depot.pick(2), VersionDepot.SAME);
        check.due("merge(1)", depot.merge(1), VersionDepot.CLASH);
        check.due("commit()", depot.commit(), VersionDepot.CLASH);
        check.due("abort()", depot.abort(), 0);
        check.commit(depot, 4, 8);
    }

    /** Terms: commits are numbered "as they are made"; a swept one's number is not given again. */
    private static void sweptNumbersStayTaken(Check check) {
        VersionDepot depot = Situation.SWEPT.make();
        check.due("count(3)", depot.count(3), 2);
        check.due("count(4)", depot.count(4), 4);
        check.commit(depot, 5, 5);
        check.due("parent(5, 0)", depot.parent(5, 0), 4);
        check.due("parent(4, 0)", depot.parent(4, 0), 1);
    }

    /** Terms: "BLOBS, one for each content but 0". */
    private static void everyContentHasItsBlob(Check check) {
        VersionDepot depot = new VersionDepot();
        int blobs = 0;
        for (int content = 1; content <= 9999; content++) {
            Situation.put(depot, content % 16, content);
            blobs++;
            check.due("count(0) with " + content, depot.count(0), blobs);
            if (blobs == 150) {
                check.due("sweep()", depot.sweep(), 150 - 16);
                depot = new VersionDepot();
                blobs = 0;
            }
        }
    }

    /** Terms: "file f is in FOLDER f / 4"; a folder's row tells the place in it, and not the folder. */
    private static void everyFileHasItsFolder(Check check) {
        for (int one = 0; one < 16; one++) {
            for (int other = one + 1; other < 16; other++) {
                VersionDepot depot = new VersionDepot();
                Situation.put(depot, one, 5);
                Situation.put(depot, other, 5);
                check.due("commit()", depot.commit(), 1);
                boolean alike = one / 4 == other / 4 || one % 4 == other % 4;
                check.due("count(1) with files " + one + " and " + other, depot.count(1), alike ? 1 : 2);
                check.due("count(0)", depot.count(0), 1);
            }
        }
    }

    /** Terms: "FOLDERS, one for each row of four contents .. whichever it is"; "ROOTS, one for each row of sixteen". */
    private static void oneBlobsFoldersAndRootsAreShared(Check check) {
        VersionDepot depot = new VersionDepot();
        check.commit(depot, 1, 1, 2, 3, 4, 1, 2, 3, 4, 1, 2, 3, 4, 1, 2, 3, 4);
        check.stored(depot, 4, 1, 1, 1);
        check.commit(depot, 2, 1, 2, 3, 4, 1, 2, 3, 4, 1, 2, 3, 4, 4, 3, 2, 1);
        check.stored(depot, 4, 2, 2, 2);
        check.commit(depot, 3, 4, 3, 2, 1, 1, 2, 3, 4, 1, 2, 3, 4, 1, 2, 3, 4);
        check.stored(depot, 4, 2, 3, 3);
        check.commit(depot, 4, 1, 2, 3, 4);
        check.stored(depot, 4, 2, 3, 4);
        check.due("sweep()", depot.sweep(), 0);
    }

    /** The most folders that 30 commits can have, and what is left of them. */
    private static void aHundredAndTwentyFolders(Check check) {
        VersionDepot depot = new VersionDepot();
        for (int number = 1; number <= 30; number++) {
            for (int folder = 0; folder < 4; folder++) {
                Situation.put(depot, folder * 5, 100 * folder + number);
            }
            check.due("commit()", depot.commit(), number);
        }
        check.stored(depot, 120, 120, 30, 30);
        for (int folder = 0; folder < 4; folder++) {
            check.due("at(1, " + folder * 5 + ")", depot.at(1, folder * 5), 100 * folder + 1);
            check.due("at(30, " + folder * 5 + ")", depot.at(30, folder * 5), 100 * folder + 30);
        }
        check.due("sweep()", depot.sweep(), 0);
        check.due("reset(1)", depot.reset(1), 0);
        check.due("sweep()", depot.sweep(), 29 * 10);
        check.stored(depot, 4, 4, 1, 1);
    }

    /** Terms: "BRANCHES 0 .. 5: each is there or not, and if it is, at a commit". */
    private static void sixBranchesAtOnce(Check check) {
        VersionDepot depot = new VersionDepot();
        for (int branch = 0; branch <= 5; branch++) {
            check.commit(depot, branch + 1, 10 + branch);
            if (branch < 5) {
                check.due("branch()", depot.branch(branch + 1), 0);
                check.due("turn()", depot.turn(branch + 1), branch + 1);
            }
        }
        for (int branch = 0; branch <= 5; branch++) {
            check.due("branchAt(" + branch + ")", depot.branchAt(branch), branch + 1);
            check.due("turn(" + branch + ")", depot.turn(branch), branch + 1);
            check.contents(depot, 0, 10 + branch);
        }
        check.due("sweep()", depot.sweep(), 0);
    }

    /** Promise 20: "files of WORK that are not as in INDEX (9)", none to sixteen. */
    private static void sixteenFilesOfWork(Check check) {
        VersionDepot depot = new VersionDepot();
        for (int file = 0; file < 16; file++) {
            check.due("count(9)", depot.count(9), file);
            depot.write(file, 1);
        }
        check.due("count(9)", depot.count(9), 16);
        for (int file = 0; file < 16; file++) {
            depot.stage(file);
            check.due("count(9)", depot.count(9), 15 - file);
        }
    }

    /** "An object is used for at most 512 calls". */
    private static void theLastCallAnswers(Check check) {
        VersionDepot depot = new VersionDepot();
        for (int content = 1; content <= 255; content++) {
            Situation.put(depot, 0, content);
        }
        check.due("commit(), the 511th call", depot.commit(), 1);
        check.due("sweep(), the 512th call", depot.sweep(), 254);
    }
}
