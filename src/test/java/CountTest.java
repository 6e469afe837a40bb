/** Promise 20, and the constants. */
public final class CountTest {
    public static void main(String[] args) {
        Check check = new Check();
        constants(check);
        everyCount(check);
        countsOfAMerge(check);
        countRefuses(check);
        check.end();
    }

    private static void constants(Check check) {
        check.due("REFUSED", VersionDepot.REFUSED, -1);
        check.due("FULL", VersionDepot.FULL, -2);
        check.due("SAME", VersionDepot.SAME, -3);
        check.due("UNTIDY", VersionDepot.UNTIDY, -4);
        check.due("CLASH", VersionDepot.CLASH, -5);
    }

    private static void everyCount(Check check) {
        VersionDepot depot = new VersionDepot();
        check.commit(depot, 1, 1, 2, 3, 0, 3, 2);
        check.commit(depot, 2, 1, 2, 3, 0, 3, 2, 1);
        check.commit(depot, 3, 4, 5, 6);
        depot.branch(4);
        check.due("turn(4)", depot.turn(4), 3);
        check.stored(depot, 6, 4, 3, 3);
        check.due("reset(1)", depot.reset(1), 0);
        check.due("remove(0)", depot.remove(0), 0);
        check.due("sweep()", depot.sweep(), 3 + 2 + 2 + 2);
        check.stored(depot, 3, 2, 1, 1);
        check.due("count(4)", depot.count(4), 3);
        check.due("count(5)", depot.count(5), 4);
        check.due("count(6)", depot.count(6), 1);
        depot.write(0, 9);
        depot.write(15, 9);
        check.due("count(9)", depot.count(9), 2);
        depot.stage(15);
        check.due("count(9)", depot.count(9), 1);
        depot.write(15, 0);
        check.due("count(9)", depot.count(9), 2);
    }

    private static void countsOfAMerge(Check check) {
        VersionDepot depot = new VersionDepot();
        int[] ones = {1, 1, 1, 1, 1, 1, 1, 1, 1, 1, 1, 1, 1, 1, 1, 1};
        int[] twos = {2, 2, 2, 2, 2, 2, 2, 2, 2, 2, 2, 2, 2, 2, 2, 2};
        check.commit(depot, 1, 1);
        depot.branch(1);
        check.commit(depot, 2, twos);
        depot.turn(1);
        check.commit(depot, 3, ones);
        check.commit(depot, 4, 3);
        check.due("merge(0)", depot.merge(0), VersionDepot.CLASH);
        check.due("count(7)", depot.count(7), 2);
        check.due("count(8)", depot.count(8), 16);
        check.due("clashing(15)", depot.clashing(15), true);
        check.due("stage(15)", depot.stage(15), 0);
        check.due("stage(15)", depot.stage(15), 0);
        check.due("count(8)", depot.count(8), 15);
        check.due("count(9)", depot.count(9), 0);
    }

    private static void countRefuses(Check check) {
        VersionDepot depot = new VersionDepot();
        check.commit(depot, 1, 1);
        int[] bad = {-1, 10, 11, Integer.MIN_VALUE, Integer.MAX_VALUE};
        for (int what : bad) {
            check.due("count(" + what + ")", depot.count(what), VersionDepot.REFUSED);
        }
    }
}
