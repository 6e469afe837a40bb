/** Promises 5 (branch), 6 (turn), 10 (reset), 11 (remove) and 16 (branchAt). */
public final class BranchTest {
    private static final int[] NO_BRANCHES = {-1, 6, 32, Integer.MIN_VALUE, Integer.MAX_VALUE};

    public static void main(String[] args) {
        Check check = new Check();
        branchIsAtHere(check);
        turnTakesContents(check);
        turnNeedsTidy(check);
        turnBackToHead(check);
        resetMovesHead(check);
        resetRefuses(check);
        removeTakesBranch(check);
        branchAtRefuses(check);
        mergeUnderWayStopsTurnAndReset(check);
        check.end();
    }

    private static void branchIsAtHere(Check check) {
        VersionDepot depot = new VersionDepot();
        check.due("branch(0)", depot.branch(0), VersionDepot.REFUSED);
        check.due("branch(1)", depot.branch(1), VersionDepot.REFUSED);
        check.commit(depot, 1, 1);
        check.due("branch(0)", depot.branch(0), VersionDepot.REFUSED);
        check.due("branch(5)", depot.branch(5), 0);
        check.due("branch(5)", depot.branch(5), VersionDepot.REFUSED);
        check.commit(depot, 2, 2);
        depot.write(0, 3);
        check.due("branch(1)", depot.branch(1), 0);
        check.due("branchAt(0)", depot.branchAt(0), 2);
        check.due("branchAt(1)", depot.branchAt(1), 2);
        check.due("branchAt(5)", depot.branchAt(5), 1);
        check.due("count(5)", depot.count(5), 0);
        for (int branch : NO_BRANCHES) {
            check.due("branch(" + branch + ")", depot.branch(branch), VersionDepot.REFUSED);
        }
    }

    private static void turnTakesContents(Check check) {
        VersionDepot depot = new VersionDepot();
        check.due("turn(0)", depot.turn(0), VersionDepot.REFUSED);
        check.commit(depot, 1, 1, 2);
        depot.branch(3);
        check.commit(depot, 2, 5, 0, 6);
        check.due("turn(3)", depot.turn(3), 1);
        check.due("count(5)", depot.count(5), 3);
        check.due("count(6)", depot.count(6), 1);
        check.contents(depot, 0, 1, 2);
        check.contents(depot, 1, 1, 2);
        check.commit(depot, 3, 7);
        check.due("branchAt(0)", depot.branchAt(0), 2);
        check.due("branchAt(3)", depot.branchAt(3), 3);
        check.due("turn(1)", depot.turn(1), VersionDepot.REFUSED);
        for (int branch : NO_BRANCHES) {
            check.due("turn(" + branch + ")", depot.turn(branch), VersionDepot.REFUSED);
        }
        check.due("turn(0)", depot.turn(0), 2);
        check.contents(depot, 0, 5, 0, 6);
        check.contents(depot, 1, 5, 0, 6);
    }

    private static void turnNeedsTidy(Check check) {
        VersionDepot depot = new VersionDepot();
        check.commit(depot, 1, 1);
        depot.branch(1);
        depot.write(15, 2);
        check.due("turn(2)", depot.turn(2), VersionDepot.REFUSED);
        check.due("turn(1)", depot.turn(1), VersionDepot.UNTIDY);
        depot.stage(15);
        check.due("turn(1)", depot.turn(1), VersionDepot.UNTIDY);
        depot.write(15, 0);
        check.due("turn(1)", depot.turn(1), VersionDepot.UNTIDY);
        check.due("count(5)", depot.count(5), 0);
        check.due("content(1, 15)", depot.content(1, 15), 2);
        depot.stage(15);
        check.due("turn(1)", depot.turn(1), 1);
    }

    private static void turnBackToHead(Check check) {
        VersionDepot depot = new VersionDepot();
        check.commit(depot, 1, 1);
        check.due("turn(0)", depot.turn(0), 1);
        depot.write(0, 2);
        check.due("turn(0)", depot.turn(0), VersionDepot.UNTIDY);
        check.contents(depot, 0, 2);
    }

    private static void resetMovesHead(Check check) {
        VersionDepot depot = new VersionDepot();
        check.commit(depot, 1, 1, 2);
        depot.branch(1);
        check.commit(depot, 2, 3);
        depot.write(5, 5);
        check.put(depot, 6, 6);
        check.due("reset(1)", depot.reset(1), 0);
        check.contents(depot, 0, 1, 2);
        check.contents(depot, 1, 1, 2);
        check.due("branchAt(0)", depot.branchAt(0), 1);
        check.due("reset(2)", depot.reset(2), 0);
        check.contents(depot, 0, 3, 2);
        check.due("branchAt(0)", depot.branchAt(0), 2);
        check.due("branchAt(1)", depot.branchAt(1), 1);
        check.due("count(5)", depot.count(5), 0);
    }

    private static void resetRefuses(Check check) {
        VersionDepot depot = new VersionDepot();
        check.due("reset(0)", depot.reset(0), VersionDepot.REFUSED);
        check.commit(depot, 1, 1);
        check.commit(depot, 2, 2);
        depot.reset(1);
        depot.sweep();
        int[] bad = {-1, 0, 2, 3, 31, 32, 33, Integer.MIN_VALUE, Integer.MAX_VALUE};
        for (int commit : bad) {
            check.due("reset(" + commit + ")", depot.reset(commit), VersionDepot.REFUSED);
        }
        check.due("count(6)", depot.count(6), 1);
        check.contents(depot, 0, 1);
    }

    private static void removeTakesBranch(Check check) {
        VersionDepot depot = new VersionDepot();
        check.due("remove(0)", depot.remove(0), VersionDepot.REFUSED);
        check.commit(depot, 1, 1);
        depot.branch(5);
        check.due("remove(0)", depot.remove(0), VersionDepot.REFUSED);
        check.due("remove(1)", depot.remove(1), VersionDepot.REFUSED);
        depot.write(0, 2);
        check.due("remove(5)", depot.remove(5), 0);
        check.due("remove(5)", depot.remove(5), VersionDepot.REFUSED);
        check.due("branchAt(5)", depot.branchAt(5), 0);
        for (int branch : NO_BRANCHES) {
            check.due("remove(" + branch + ")", depot.remove(branch), VersionDepot.REFUSED);
        }
        check.due("branch(5)", depot.branch(5), 0);
        depot.write(0, 1);
        depot.turn(5);
        check.due("remove(5)", depot.remove(5), VersionDepot.REFUSED);
        check.due("remove(0)", depot.remove(0), 0);
        check.due("count(3)", depot.count(3), 1);
    }

    private static void branchAtRefuses(Check check) {
        VersionDepot depot = new VersionDepot();
        check.commit(depot, 1, 1);
        for (int branch : NO_BRANCHES) {
            check.due("branchAt(" + branch + ")", depot.branchAt(branch), VersionDepot.REFUSED);
        }
        check.due("branchAt(5)", depot.branchAt(5), 0);
    }

    private static void mergeUnderWayStopsTurnAndReset(Check check) {
        VersionDepot depot = new VersionDepot();
        check.commit(depot, 1, 1);
        depot.branch(1);
        check.commit(depot, 2, 2);
        depot.turn(1);
        check.commit(depot, 3, 3);
        check.due("merge(0)", depot.merge(0), VersionDepot.CLASH);
        check.due("turn(0)", depot.turn(0), VersionDepot.REFUSED);
        check.due("turn(1)", depot.turn(1), VersionDepot.REFUSED);
        check.due("reset(3)", depot.reset(3), VersionDepot.REFUSED);
        check.due("branch(2)", depot.branch(2), 0);
        check.due("branchAt(2)", depot.branchAt(2), 3);
        check.due("remove(0)", depot.remove(0), 0);
        check.due("remove(1)", depot.remove(1), VersionDepot.REFUSED);
        check.due("count(7)", depot.count(7), 2);
    }
}
