/** Promises 7 (merge), 8 (abort), 17 (common) and 19 (clashing). */
public final class MergeTest {
    public static void main(String[] args) {
        Check check = new Check();
        mergeRefuses(check);
        mergeNeedsTidy(check);
        mergeOfAnAncestor(check);
        mergeForward(check);
        mixtureOfEveryKind(check);
        mixtureMayBeAsHere(check);
        clashStaysOnHere(check);
        commitEndsMerge(check);
        commitOfMergeMayBeAsHere(check);
        abortBringsHereBack(check);
        mergeWhenFull(check);
        clashWhenFull(check);
        commonIsTheGreatest(check);
        commonAfterMergesAcross(check);
        commonRefuses(check);
        clashingOfOthers(check);
        check.end();
    }

    /** Commit 1 has the base; branch 0 is at 2 with ours, HEAD and branch 0; branch 1 is at 3 with theirs. */
    private static VersionDepot apart(Check check, int[] base, int[] ours, int[] theirs) {
        VersionDepot depot = new VersionDepot();
        check.commit(depot, 1, base);
        check.due("branch(1)", depot.branch(1), 0);
        check.commit(depot, 2, ours);
        check.due("turn(1)", depot.turn(1), 1);
        check.commit(depot, 3, theirs);
        check.due("turn(0)", depot.turn(0), 2);
        return depot;
    }

    private static VersionDepot clashed(Check check) {
        VersionDepot depot = apart(check, new int[] {1, 1}, new int[] {2, 1, 5}, new int[] {3, 4, 6});
        check.due("merge(1)", depot.merge(1), VersionDepot.CLASH);
        return depot;
    }

    private static void mergeRefuses(Check check) {
        VersionDepot depot = new VersionDepot();
        check.due("merge(0)", depot.merge(0), VersionDepot.REFUSED);
        check.commit(depot, 1, 1);
        depot.write(0, 2);
        int[] bad = {-1, 1, 5, 6, 32, Integer.MIN_VALUE, Integer.MAX_VALUE};
        for (int branch : bad) {
            check.due("merge(" + branch + ")", depot.merge(branch), VersionDepot.REFUSED);
        }
    }

    private static void mergeNeedsTidy(Check check) {
        VersionDepot depot = apart(check, new int[] {1}, new int[] {1, 2}, new int[] {1, 0, 3});
        depot.write(15, 1);
        check.due("merge(0)", depot.merge(0), VersionDepot.UNTIDY);
        check.due("merge(1)", depot.merge(1), VersionDepot.UNTIDY);
        depot.stage(15);
        check.due("merge(1)", depot.merge(1), VersionDepot.UNTIDY);
        depot.write(15, 0);
        check.due("merge(1)", depot.merge(1), VersionDepot.UNTIDY);
        check.due("count(7)", depot.count(7), 0);
        depot.stage(15);
        check.due("merge(1)", depot.merge(1), 4);
    }

    private static void mergeOfAnAncestor(Check check) {
        VersionDepot depot = new VersionDepot();
        check.commit(depot, 1, 1);
        depot.branch(1);
        check.due("merge(0)", depot.merge(0), 0);
        check.due("merge(1)", depot.merge(1), 0);
        check.commit(depot, 2, 2);
        check.commit(depot, 3, 3);
        check.due("merge(1)", depot.merge(1), 0);
        check.due("count(4)", depot.count(4), 3);
        check.due("count(6)", depot.count(6), 3);
        check.contents(depot, 0, 3);
    }

    private static void mergeForward(Check check) {
        VersionDepot depot = new VersionDepot();
        check.commit(depot, 1, 1);
        depot.branch(1);
        check.commit(depot, 2, 2);
        check.commit(depot, 3, 3, 4);
        depot.turn(1);
        check.due("merge(0)", depot.merge(0), 3);
        check.due("branchAt(1)", depot.branchAt(1), 3);
        check.due("count(5)", depot.count(5), 1);
        check.due("count(4)", depot.count(4), 3);
        check.contents(depot, 0, 3, 4);
        check.contents(depot, 1, 3, 4);
    }

    private static void mixtureOfEveryKind(Check check) {
        // In turn: nobody changed, both alike, theirs alone, ours alone, both took away, theirs took away,
        // ours took away, theirs added, ours added, both added alike.
        VersionDepot depot = apart(check,
            new int[] {1, 1, 1, 1, 1, 1, 1},
            new int[] {1, 2, 1, 4, 0, 1, 0, 0, 8, 9},
            new int[] {1, 2, 3, 1, 0, 0, 1, 7, 0, 9});
        check.due("merge(1)", depot.merge(1), 4);
        check.committed(depot, 4, 1, 2, 3, 4, 0, 0, 0, 7, 8, 9);
        check.contents(depot, 0, 1, 2, 3, 4, 0, 0, 0, 7, 8, 9);
        check.contents(depot, 1, 1, 2, 3, 4, 0, 0, 0, 7, 8, 9);
        check.due("parent(4, 0)", depot.parent(4, 0), 2);
        check.due("parent(4, 1)", depot.parent(4, 1), 3);
        check.due("branchAt(0)", depot.branchAt(0), 4);
        check.due("branchAt(1)", depot.branchAt(1), 3);
        check.due("count(7)", depot.count(7), 0);
    }

    private static void mixtureMayBeAsHere(Check check) {
        VersionDepot depot = apart(check, new int[] {1}, new int[] {2}, new int[] {2});
        check.stored(depot, 2, 2, 2, 3);
        check.due("merge(1)", depot.merge(1), 4);
        check.stored(depot, 2, 2, 2, 4);
    }

    private static void clashStaysOnHere(Check check) {
        VersionDepot depot = clashed(check);
        check.contents(depot, 0, 2, 4, 5);
        check.contents(depot, 1, 2, 4, 5);
        check.due("clashing(0)", depot.clashing(0), true);
        check.due("clashing(1)", depot.clashing(1), false);
        check.due("clashing(2)", depot.clashing(2), true);
        check.due("count(6)", depot.count(6), 2);
        check.due("count(7)", depot.count(7), 3);
        check.due("count(8)", depot.count(8), 2);
        check.stored(depot, 6, 3, 3, 3);
        check.due("merge(1)", depot.merge(1), VersionDepot.REFUSED);
        check.due("merge(0)", depot.merge(0), VersionDepot.REFUSED);
        check.due("pick(1)", depot.pick(1), VersionDepot.REFUSED);
    }

    private static void commitEndsMerge(Check check) {
        VersionDepot depot = clashed(check);
        check.due("commit()", depot.commit(), VersionDepot.CLASH);
        check.put(depot, 0, 7);
        check.due("clashing(0)", depot.clashing(0), false);
        check.due("count(8)", depot.count(8), 1);
        check.due("commit()", depot.commit(), VersionDepot.CLASH);
        check.due("write(2, 8)", depot.write(2, 8), 0);
        check.due("clashing(2)", depot.clashing(2), true);
        check.due("stage(2)", depot.stage(2), 0);
        check.due("commit()", depot.commit(), 4);
        check.committed(depot, 4, 7, 4, 8);
        check.due("parent(4, 0)", depot.parent(4, 0), 2);
        check.due("parent(4, 1)", depot.parent(4, 1), 3);
        check.due("count(7)", depot.count(7), 0);
        check.due("abort()", depot.abort(), VersionDepot.REFUSED);
        check.due("commit()", depot.commit(), VersionDepot.SAME);
        check.due("merge(1)", depot.merge(1), 0);
    }

    private static void commitOfMergeMayBeAsHere(Check check) {
        VersionDepot depot = apart(check, new int[] {1}, new int[] {2}, new int[] {3});
        check.due("merge(1)", depot.merge(1), VersionDepot.CLASH);
        check.due("stage(0)", depot.stage(0), 0);
        check.due("commit()", depot.commit(), 4);
        check.due("differ(2, 4)", depot.differ(2, 4), 0);
        check.due("parent(4, 1)", depot.parent(4, 1), 3);
    }

    private static void abortBringsHereBack(Check check) {
        VersionDepot depot = clashed(check);
        check.put(depot, 0, 7);
        check.due("write(9, 9)", depot.write(9, 9), 0);
        check.due("abort()", depot.abort(), 0);
        check.contents(depot, 0, 2, 1, 5);
        check.contents(depot, 1, 2, 1, 5);
        check.due("count(6)", depot.count(6), 2);
        check.due("count(7)", depot.count(7), 0);
        check.due("count(8)", depot.count(8), 0);
        check.due("clashing(2)", depot.clashing(2), false);
        check.due("abort()", depot.abort(), VersionDepot.REFUSED);
        check.due("commit()", depot.commit(), VersionDepot.SAME);
        check.due("turn(1)", depot.turn(1), 3);
        check.due("merge(0)", depot.merge(0), VersionDepot.CLASH);
    }

    private static void mergeWhenFull(Check check) {
        VersionDepot depot = apart(check, new int[] {1}, new int[] {1, 2}, new int[] {1, 0, 3});
        check.fill(depot);
        check.due("merge(1)", depot.merge(1), VersionDepot.FULL);
        check.due("count(6)", depot.count(6), 30);
        check.due("count(7)", depot.count(7), 0);
        check.contents(depot, 0, 9030, 2);
        check.due("branch(2)", depot.branch(2), 0);
        check.due("reset(2)", depot.reset(2), 0);
        check.due("merge(2)", depot.merge(2), 30);
    }

    private static void clashWhenFull(Check check) {
        VersionDepot depot = apart(check, new int[] {1}, new int[] {2}, new int[] {3});
        check.fill(depot);
        check.due("merge(1)", depot.merge(1), VersionDepot.CLASH);
        check.due("commit()", depot.commit(), VersionDepot.CLASH);
        check.due("stage(0)", depot.stage(0), 0);
        check.due("commit()", depot.commit(), VersionDepot.FULL);
        check.due("count(7)", depot.count(7), 3);
        check.due("abort()", depot.abort(), 0);
    }

    private static void commonIsTheGreatest(Check check) {
        VersionDepot depot = apart(check, new int[] {1}, new int[] {1, 2}, new int[] {1, 0, 3});
        check.due("common(2, 3)", depot.common(2, 3), 1);
        check.due("common(1, 3)", depot.common(1, 3), 1);
        check.due("common(3, 1)", depot.common(3, 1), 1);
        check.due("common(3, 3)", depot.common(3, 3), 3);
        check.due("merge(1)", depot.merge(1), 4);
        check.due("common(4, 3)", depot.common(4, 3), 3);
        check.due("common(2, 4)", depot.common(2, 4), 2);
        check.fill(depot);
        check.due("common(30, 30)", depot.common(30, 30), 30);
        check.due("common(30, 3)", depot.common(30, 3), 3);
    }

    /** Both sides merged the other's commit: two common ancestors, and the greater is the base. */
    private static void commonAfterMergesAcross(Check check) {
        VersionDepot depot = apart(check, new int[] {1}, new int[] {1, 2}, new int[] {1, 0, 3});
        depot.branch(2);
        check.due("merge(1)", depot.merge(1), 4);
        depot.turn(1);
        check.due("merge(2)", depot.merge(2), 5);
        check.due("parent(5, 0)", depot.parent(5, 0), 3);
        check.due("common(4, 5)", depot.common(4, 5), 3);
        // File 1 is 2 in commits 4 and 5 and 0 in the base, commit 3: a change back to 0 is as the base.
        check.commit(depot, 6, 1, 0, 3);
        depot.turn(0);
        check.due("merge(1)", depot.merge(1), 7);
        check.committed(depot, 7, 1, 2, 3);
    }

    private static void commonRefuses(Check check) {
        VersionDepot depot = new VersionDepot();
        check.commit(depot, 1, 1);
        check.commit(depot, 2, 2);
        depot.reset(1);
        check.due("common(1, 2)", depot.common(1, 2), 1);
        depot.sweep();
        int[] bad = {-1, 0, 2, 3, 31, 32, 33, Integer.MIN_VALUE, Integer.MAX_VALUE};
        for (int commit : bad) {
            check.due("common(1, " + commit + ")", depot.common(1, commit), VersionDepot.REFUSED);
            check.due("common(" + commit + ", 1)", depot.common(commit, 1), VersionDepot.REFUSED);
        }
    }

    private static void clashingOfOthers(Check check) {
        VersionDepot depot = clashed(check);
        int[] bad = {-1, -32, 16, 32, 34, Integer.MIN_VALUE, Integer.MAX_VALUE};
        for (int file : bad) {
            check.due("clashing(" + file + ")", depot.clashing(file), false);
        }
        check.due("stage(32)", depot.stage(32), VersionDepot.REFUSED);
        check.due("clashing(0)", depot.clashing(0), true);
    }
}
