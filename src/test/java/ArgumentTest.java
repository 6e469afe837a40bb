/** Each argument of each call: every value that is allowed, and those beyond on either side. */
public final class ArgumentTest {
    public static void main(String[] args) {
        Check check = new Check();
        writeFile(check);
        writeContent(check);
        stageFile(check);
        branchOf0To5(check);
        turnToABranchThatIsThere(check);
        mergeABranchThatIsThere(check);
        pickAStoredCommit(check);
        resetToAStoredCommit(check);
        removeABranchThatIsThere(check);
        contentWhere(check);
        contentFile(check);
        atStoredCommit(check);
        atFile(check);
        parentOfStoredCommit(check);
        parentWhich(check);
        branchAtBranch(check);
        commonOfStoredCommits(check);
        differOfStoredCommits(check);
        clashingFile(check);
        countWhat(check);
        check.end();
    }

    /** Promise 2, "FILES 0 .. 15": "0, or REFUSED". */
    private static void writeFile(Check check) {
        VersionDepot depot = new VersionDepot();
        for (int file = 0; file < 16; file++) {
            check.due("write(" + file + ", 7)", depot.write(file, 7), 0);
            check.due("content(0, " + file + ")", depot.content(0, file), 7);
        }
        for (int file : Beyond.FILES) {
            check.refused("write(" + file + ", 8)", depot.write(file, 8));
        }
        check.contents(depot, 0, 7, 7, 7, 7, 7, 7, 7, 7, 7, 7, 7, 7, 7, 7, 7, 7);
    }

    /** Promise 2: "this content, 0 .. 9999". */
    private static void writeContent(Check check) {
        VersionDepot depot = new VersionDepot();
        int[] allowed = {1, 9999, 0, 9998, 2};
        for (int content : allowed) {
            check.due("write(3, " + content + ")", depot.write(3, content), 0);
            check.due("content(0, 3)", depot.content(0, 3), content);
        }
        for (int content : Beyond.CONTENTS) {
            check.refused("write(3, " + content + ")", depot.write(3, content));
            check.due("content(0, 3)", depot.content(0, 3), 2);
        }
    }

    /** Promise 3, "FILES 0 .. 15": "0, or REFUSED". */
    private static void stageFile(Check check) {
        VersionDepot depot = new VersionDepot();
        for (int file : Beyond.FILES) {
            depot.write(0, 5);
            depot.write(15, 6);
            check.refused("stage(" + file + ")", depot.stage(file));
        }
        check.contents(depot, 1);
        for (int file = 0; file < 16; file++) {
            depot.write(file, 10 + file);
            check.due("stage(" + file + ")", depot.stage(file), 0);
            check.due("content(1, " + file + ")", depot.content(1, file), 10 + file);
        }
    }

    /** Promise 5: "The branch, 0 .. 5, which is not there (else REFUSED)". */
    private static void branchOf0To5(Check check) {
        VersionDepot depot = Situation.ONE_COMMIT.make();
        for (int branch : Beyond.BRANCHES) {
            check.refused("branch(" + branch + ")", depot.branch(branch));
        }
        for (int branch = 1; branch <= 5; branch++) {
            check.due("branchAt(" + branch + ")", depot.branchAt(branch), 0);
            check.due("branch(" + branch + ")", depot.branch(branch), 0);
            check.due("branchAt(" + branch + ")", depot.branchAt(branch), 1);
        }
        for (int branch = 0; branch <= 5; branch++) {
            check.refused("branch(" + branch + ")", depot.branch(branch));
        }
        depot.turn(5);
        depot.remove(0);
        check.due("branch(0)", depot.branch(0), 0);
        check.due("branchAt(0)", depot.branchAt(0), 1);
    }

    /** Promise 6: "HEAD becomes a branch that is there (else REFUSED ..)". */
    private static void turnToABranchThatIsThere(Check check) {
        VersionDepot depot = Situation.ONE_COMMIT.make();
        for (int branch = 1; branch <= 5; branch++) {
            check.refused("turn(" + branch + ")", depot.turn(branch));
            depot.branch(branch);
            check.due("turn(" + branch + ")", depot.turn(branch), 1);
            check.due("count(5)", depot.count(5), branch);
        }
        check.due("turn(0)", depot.turn(0), 1);
        check.due("count(5)", depot.count(5), 0);
        for (int branch : Beyond.BRANCHES) {
            check.refused("turn(" + branch + ")", depot.turn(branch));
        }
        depot.remove(5);
        check.refused("turn(5)", depot.turn(5));
    }

    /** Promise 7: "Merges a branch that is there into HEAD (REFUSED if it is not ..)". */
    private static void mergeABranchThatIsThere(Check check) {
        VersionDepot depot = Situation.ONE_COMMIT.make();
        for (int branch = 1; branch <= 5; branch++) {
            check.refused("merge(" + branch + ")", depot.merge(branch));
            depot.branch(branch);
            check.due("merge(" + branch + ")", depot.merge(branch), 0);
        }
        check.due("merge(0)", depot.merge(0), 0);
        for (int branch : Beyond.BRANCHES) {
            check.refused("merge(" + branch + ")", depot.merge(branch));
        }
        depot.remove(5);
        check.refused("merge(5)", depot.merge(5));
    }

    /** Promise 9: "REFUSED if c is not stored". */
    private static void pickAStoredCommit(Check check) {
        VersionDepot full = Situation.FULL.make();
        for (int commit : Beyond.COMMITS) {
            check.refused("pick(" + commit + ")", full.pick(commit));
        }
        check.due("pick(30)", full.pick(30), VersionDepot.SAME);
        check.due("pick(29)", full.pick(29), VersionDepot.CLASH);
        check.due("pick(3)", full.pick(3), VersionDepot.FULL);
        VersionDepot apart = Situation.APART.make();
        check.refused("pick(4)", apart.pick(4));
        check.refused("pick(30)", apart.pick(30));
        check.due("pick(1)", apart.pick(1), VersionDepot.SAME);
        check.due("pick(3)", apart.pick(3), 4);
        VersionDepot swept = Situation.SWEPT.make();
        check.refused("pick(2)", swept.pick(2));
        check.refused("pick(3)", swept.pick(3));
        check.due("pick(4)", swept.pick(4), VersionDepot.SAME);
    }

    /** Promise 10: "HEAD .. is at a stored commit", "REFUSED if it is not stored". */
    private static void resetToAStoredCommit(Check check) {
        VersionDepot full = Situation.FULL.make();
        for (int commit = 1; commit <= 30; commit++) {
            check.due("reset(" + commit + ")", full.reset(commit), 0);
            check.due("count(6)", full.count(6), commit);
        }
        for (int commit : Beyond.COMMITS) {
            check.refused("reset(" + commit + ")", full.reset(commit));
        }
        check.due("count(6)", full.count(6), 30);
        VersionDepot swept = Situation.SWEPT.make();
        check.refused("reset(2)", swept.reset(2));
        check.refused("reset(3)", swept.reset(3));
        check.refused("reset(5)", swept.reset(5));
        check.due("count(6)", swept.count(6), 4);
        check.due("reset(1)", swept.reset(1), 0);
        check.due("reset(4)", swept.reset(4), 0);
    }

    /** Promise 11: "A branch that is there and not HEAD (else REFUSED)". */
    private static void removeABranchThatIsThere(Check check) {
        VersionDepot depot = Situation.SIX_BRANCHES.make();
        for (int branch : Beyond.BRANCHES) {
            check.refused("remove(" + branch + ")", depot.remove(branch));
        }
        check.refused("remove(0)", depot.remove(0));
        check.due("turn(5)", depot.turn(5), 1);
        for (int branch = 0; branch <= 4; branch++) {
            check.due("remove(" + branch + ")", depot.remove(branch), 0);
            check.due("branchAt(" + branch + ")", depot.branchAt(branch), 0);
            check.refused("remove(" + branch + ")", depot.remove(branch));
        }
        check.refused("remove(5)", depot.remove(5));
        check.due("branchAt(5)", depot.branchAt(5), 1);
    }

    /** Promise 13: "WORK (0), INDEX (1)", "REFUSED for others". */
    private static void contentWhere(Check check) {
        VersionDepot depot = Situation.EDITED.make();
        check.due("content(0, 1)", depot.content(0, 1), 6);
        check.due("content(1, 1)", depot.content(1, 1), 0);
        check.due("content(1, 0)", depot.content(1, 0), 5);
        for (int where : Beyond.PLACES) {
            check.refused("content(" + where + ", 0)", depot.content(where, 0));
            check.refused("content(" + where + ", 16)", depot.content(where, 16));
        }
    }

    /** Promise 13: "of a file; REFUSED for others". */
    private static void contentFile(Check check) {
        VersionDepot depot = Situation.EDITED.make();
        Situation.put(depot, 15, 9);
        check.contents(depot, 0, 5, 6, 0, 0, 0, 0, 0, 0, 0, 0, 0, 0, 0, 0, 0, 9);
        check.contents(depot, 1, 5, 0, 0, 0, 0, 0, 0, 0, 0, 0, 0, 0, 0, 0, 0, 9);
        for (int file : Beyond.FILES) {
            check.refused("content(0, " + file + ")", depot.content(0, file));
            check.refused("content(1, " + file + ")", depot.content(1, file));
        }
    }

    /** Promise 14: "in a commit that is stored; REFUSED for others". */
    private static void atStoredCommit(Check check) {
        VersionDepot full = Situation.FULL.make();
        check.due("at(1, 0)", full.at(1, 0), 1);
        check.due("at(29, 0)", full.at(29, 0), 9029);
        check.due("at(30, 0)", full.at(30, 0), 9030);
        for (int commit : Beyond.COMMITS) {
            check.refused("at(" + commit + ", 0)", full.at(commit, 0));
        }
        VersionDepot swept = Situation.SWEPT.make();
        int[] due = {-1, 1, -1, -1, 4, -1};
        for (int commit = 0; commit < due.length; commit++) {
            check.due("at(" + commit + ", 0)", swept.at(commit, 0), due[commit]);
        }
        check.refused("at(30, 0)", swept.at(30, 0));
    }

    /** Promise 14: "The content of a file", "REFUSED for others". */
    private static void atFile(Check check) {
        VersionDepot depot = new VersionDepot();
        check.commit(depot, 1, 1, 2, 3, 4, 5, 6, 7, 8, 9, 10, 11, 12, 13, 14, 15, 16);
        check.committed(depot, 1, 1, 2, 3, 4, 5, 6, 7, 8, 9, 10, 11, 12, 13, 14, 15, 16);
        for (int file : Beyond.FILES) {
            check.refused("at(1, " + file + ")", depot.at(1, file));
            check.refused("at(2, " + file + ")", depot.at(2, file));
        }
    }

    /** Promise 15: "of a commit that is stored", "REFUSED for others". */
    private static void parentOfStoredCommit(Check check) {
        VersionDepot full = Situation.FULL.make();
        check.due("parent(1, 0)", full.parent(1, 0), 0);
        check.due("parent(3, 0)", full.parent(3, 0), 1);
        check.due("parent(30, 0)", full.parent(30, 0), 29);
        check.due("parent(30, 1)", full.parent(30, 1), 0);
        for (int commit : Beyond.COMMITS) {
            check.refused("parent(" + commit + ", 0)", full.parent(commit, 0));
            check.refused("parent(" + commit + ", 1)", full.parent(commit, 1));
        }
        VersionDepot swept = Situation.SWEPT.make();
        int[] due = {-1, 0, -1, -1, 1, -1};
        for (int commit = 0; commit < due.length; commit++) {
            check.due("parent(" + commit + ", 0)", swept.parent(commit, 0), due[commit]);
        }
    }

    /** Promise 15: "Parent 0 or 1", "0 if it has not so many; REFUSED for others". */
    private static void parentWhich(Check check) {
        VersionDepot depot = Situation.APART.make();
        check.due("merge(1)", depot.merge(1), 4);
        int[][] due = {{0, 0}, {1, 0}, {1, 0}, {2, 3}};
        for (int commit = 1; commit <= 4; commit++) {
            check.due("parent(" + commit + ", 0)", depot.parent(commit, 0), due[commit - 1][0]);
            check.due("parent(" + commit + ", 1)", depot.parent(commit, 1), due[commit - 1][1]);
            for (int which : Beyond.PLACES) {
                check.refused("parent(" + commit + ", " + which + ")", depot.parent(commit, which));
            }
        }
    }

    /** Promise 16: "0 if it is not there; REFUSED for others". */
    private static void branchAtBranch(Check check) {
        VersionDepot depot = Situation.SIX_BRANCHES.make();
        for (int branch : Beyond.BRANCHES) {
            check.refused("branchAt(" + branch + ")", depot.branchAt(branch));
        }
        for (int branch = 0; branch <= 5; branch++) {
            check.due("branchAt(" + branch + ")", depot.branchAt(branch), 1);
            depot.remove(branch);
            check.due("branchAt(" + branch + ")", depot.branchAt(branch), branch == 0 ? 1 : 0);
        }
    }

    /** Promise 17: "two stored commits", "REFUSED for others". */
    private static void commonOfStoredCommits(Check check) {
        VersionDepot full = Situation.FULL.make();
        check.due("common(1, 30)", full.common(1, 30), 1);
        check.due("common(30, 29)", full.common(30, 29), 29);
        check.due("common(30, 30)", full.common(30, 30), 30);
        for (int commit : Beyond.COMMITS) {
            check.refused("common(1, " + commit + ")", full.common(1, commit));
            check.refused("common(" + commit + ", 1)", full.common(commit, 1));
            check.refused("common(" + commit + ", " + commit + ")", full.common(commit, commit));
        }
        VersionDepot swept = Situation.SWEPT.make();
        check.due("common(4, 1)", swept.common(4, 1), 1);
        for (int commit : new int[] {0, 2, 3, 5, 30}) {
            check.refused("common(4, " + commit + ")", swept.common(4, commit));
            check.refused("common(" + commit + ", 4)", swept.common(commit, 4));
            check.refused("common(" + commit + ", " + commit + ")", swept.common(commit, commit));
        }
    }

    /** Promise 18: "two stored commits", "REFUSED for others". */
    private static void differOfStoredCommits(Check check) {
        VersionDepot full = Situation.FULL.make();
        check.due("differ(1, 30)", full.differ(1, 30), 2);
        check.due("differ(30, 29)", full.differ(30, 29), 1);
        check.due("differ(30, 30)", full.differ(30, 30), 0);
        for (int commit : Beyond.COMMITS) {
            check.refused("differ(1, " + commit + ")", full.differ(1, commit));
            check.refused("differ(" + commit + ", 1)", full.differ(commit, 1));
            check.refused("differ(" + commit + ", " + commit + ")", full.differ(commit, commit));
        }
        VersionDepot swept = Situation.SWEPT.make();
        check.due("differ(4, 1)", swept.differ(4, 1), 1);
        for (int commit : new int[] {0, 2, 3, 5, 30}) {
            check.refused("differ(4, " + commit + ")", swept.differ(4, commit));
            check.refused("differ(" + commit + ", 4)", swept.differ(commit, 4));
            check.refused("differ(" + commit + ", " + commit + ")", swept.differ(commit, commit));
        }
    }

    /** Promise 19: "Whether the file is CLASHING; false for others". */
    private static void clashingFile(Check check) {
        int[] ours = {2, 2, 2, 2, 2, 2, 2, 2, 2, 2, 2, 2, 2, 2, 2, 2};
        int[] theirs = {3, 3, 3, 3, 3, 3, 3, 3, 3, 3, 3, 3, 3, 3, 3, 3};
        VersionDepot depot = new VersionDepot();
        Situation.apart(depot, new int[] {1}, ours, theirs);
        check.due("merge(1)", depot.merge(1), VersionDepot.CLASH);
        for (int file : Beyond.FILES) {
            check.due("clashing(" + file + ")", depot.clashing(file), false);
        }
        for (int file = 0; file < 16; file++) {
            check.due("clashing(" + file + ")", depot.clashing(file), true);
            check.due("count(8)", depot.count(8), 16 - file);
            depot.stage(file);
            check.due("clashing(" + file + ")", depot.clashing(file), false);
        }
        check.due("count(8)", depot.count(8), 0);
    }

    /** Promise 20: 0 to 9, "REFUSED for others". */
    private static void countWhat(Check check) {
        VersionDepot depot = Situation.HALF_SETTLED.make();
        depot.write(4, 8);
        depot.write(5, 8);
        depot.write(6, 8);
        int[] due = {7, 3, 3, 3, 3, 0, 2, 3, 1, 3};
        for (int what = 0; what < due.length; what++) {
            check.due("count(" + what + ")", depot.count(what), due[what]);
        }
        for (int what : Beyond.COUNTS) {
            check.refused("count(" + what + ")", depot.count(what));
        }
    }
}
