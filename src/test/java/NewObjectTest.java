/** Promise 1. */
public final class NewObjectTest {
    private static final int NONE = -1;

    public static void main(String[] args) {
        Check check = new Check();
        everythingIsEmpty(check);
        objectsAreApart(check);
        check.end();
    }

    private static void everythingIsEmpty(Check check) {
        VersionDepot depot = new VersionDepot();
        check.contents(depot, 0);
        check.contents(depot, 1);
        for (int what = 0; what < 10; what++) {
            check.due("count(" + what + ")", depot.count(what), 0);
        }
        for (int branch = 0; branch < 6; branch++) {
            check.due("branchAt(" + branch + ")", depot.branchAt(branch), 0);
        }
        for (int file = 0; file < 16; file++) {
            check.due("clashing(" + file + ")", depot.clashing(file), false);
        }
        for (int commit = 0; commit <= 31; commit++) {
            check.due("at(" + commit + ", 0)", depot.at(commit, 0), NONE);
        }
        check.due("sweep()", depot.sweep(), 0);
    }

    private static void objectsAreApart(Check check) {
        VersionDepot used = new VersionDepot();
        VersionDepot other = new VersionDepot();
        check.commit(used, 1, 5);
        check.stored(other, 0, 0, 0, 0);
        check.contents(other, 0);
        check.due("branchAt(0)", other.branchAt(0), 0);
    }
}
