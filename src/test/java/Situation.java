import java.util.function.Consumer;

/** States that runs of calls lead to. Each can be reached anew, in 150 calls at most, since an object has 512 calls. */
enum Situation {
    NEW(depot -> { }),
    /** Before the first commit. */
    EDITED(depot -> {
        put(depot, 0, 5);
        depot.write(1, 6);
    }),
    ONE_COMMIT(depot -> commit(depot, 1)),
    /** Commit 1 is the base, HEAD is branch 0 at commit 2, branch 1 is at commit 3: they mix without a clash. */
    APART(depot -> apart(depot, new int[] {1}, new int[] {1, 2}, new int[] {1, 0, 3})),
    WORK_IS_OTHER(depot -> {
        APART.reach(depot);
        depot.write(15, 9);
    }),
    INDEX_IS_OTHER(depot -> {
        APART.reach(depot);
        put(depot, 15, 9);
        depot.write(15, 0);
    }),
    BOTH_ARE_OTHER(depot -> {
        APART.reach(depot);
        put(depot, 15, 9);
    }),
    /** As APART, but files 0 and 2 clash, and file 1 comes from branch 1. */
    OPPOSED(depot -> apart(depot, new int[] {1, 1}, new int[] {2, 1, 5}, new int[] {3, 4, 6})),
    OPPOSED_UNTIDY(depot -> {
        OPPOSED.reach(depot);
        depot.write(15, 9);
    }),
    CLASHED(depot -> {
        OPPOSED.reach(depot);
        depot.merge(1);
    }),
    HALF_SETTLED(depot -> {
        CLASHED.reach(depot);
        put(depot, 0, 7);
    }),
    /** The merge is under way, and no file is CLASHING any more. */
    SETTLED(depot -> {
        CLASHED.reach(depot);
        depot.stage(0);
        depot.stage(2);
    }),
    /** The one file there is clashes and stays as HERE has it: a merge under way, and yet WORK, INDEX and HERE are alike. */
    CLASHED_AS_HERE(depot -> {
        apart(depot, new int[] {1}, new int[] {2}, new int[] {3});
        depot.merge(1);
    }),
    /** Commits 1 and 4 are stored, 2 and 3 are not any more. */
    SWEPT(depot -> {
        commit(depot, 1);
        commit(depot, 2);
        commit(depot, 3);
        depot.reset(1);
        depot.sweep();
        commit(depot, 4);
    }),
    SIX_BRANCHES(depot -> {
        commit(depot, 1);
        for (int branch = 1; branch <= 5; branch++) {
            depot.branch(branch);
        }
    }),
    /** Branch 1 is behind HEAD, and branch 2 ahead of it. */
    IN_LINE(depot -> {
        commit(depot, 1);
        depot.branch(1);
        commit(depot, 2);
        commit(depot, 3);
        depot.branch(2);
        depot.reset(2);
    }),
    /** As APART, with 30 commits. */
    FULL(depot -> {
        APART.reach(depot);
        fill(depot, 30);
    }),
    FULL_UNTIDY(depot -> {
        FULL.reach(depot);
        put(depot, 15, 9);
    }),
    FULL_OPPOSED(depot -> {
        OPPOSED.reach(depot);
        fill(depot, 30);
    }),
    FULL_CLASHED(depot -> {
        FULL_OPPOSED.reach(depot);
        depot.merge(1);
    }),
    FULL_SETTLED(depot -> {
        FULL_CLASHED.reach(depot);
        depot.stage(0);
        depot.stage(2);
    }),
    /** 30 commits were made, and all but commits 1 and 3 are swept; HEAD is branch 0 at commit 1. */
    FULL_SWEPT(depot -> {
        FULL.reach(depot);
        depot.reset(1);
        depot.sweep();
    });

    private final Consumer<VersionDepot> way;

    Situation(Consumer<VersionDepot> way) {
        this.way = way;
    }

    VersionDepot make() {
        VersionDepot depot = new VersionDepot();
        reach(depot);
        return depot;
    }

    private void reach(VersionDepot depot) {
        way.accept(depot);
    }

    static void put(VersionDepot depot, int file, int content) {
        depot.write(file, content);
        depot.stage(file);
    }

    /** Commits contents of the first files. */
    static int commit(VersionDepot depot, int... contents) {
        for (int file = 0; file < contents.length; file++) {
            put(depot, file, contents[file]);
        }
        return depot.commit();
    }

    static void apart(VersionDepot depot, int[] base, int[] ours, int[] theirs) {
        commit(depot, base);
        depot.branch(1);
        commit(depot, ours);
        depot.turn(1);
        commit(depot, theirs);
        depot.turn(0);
    }

    /** Makes commits on HEAD, each with another content of file 0, until so many were made. */
    static void fill(VersionDepot depot, int commits) {
        for (int number = depot.count(4) + 1; number <= commits; number++) {
            commit(depot, 9000 + number);
        }
    }
}
