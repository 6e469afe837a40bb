/** Counts the answers that are not the ones that are due. */
final class Check {
    /** One fault may show in a million answers; the first of them tell enough. */
    private static final int MOST_PRINTED = 500;

    private int calls = 0;
    private int wrong = 0;

    int calls() {
        return calls;
    }

    void due(String call, int got, int want) {
        calls++;
        if (got != want) {
            wrong++;
            if (wrong <= MOST_PRINTED) {
                System.out.println(call + " answered " + got + ", due is " + want);
            }
        }
    }

    void refused(String call, int got) {
        due(call, got, VersionDepot.REFUSED);
    }

    void due(String call, boolean got, boolean want) {
        due(call, got ? 1 : 0, want ? 1 : 0);
    }

    /** The contents of WORK (0) or INDEX (1), file by file; files that are not given are due to be 0. */
    void contents(VersionDepot depot, int where, int... want) {
        for (int file = 0; file < 16; file++) {
            due("content(" + where + ", " + file + ")", depot.content(where, file), file < want.length ? want[file] : 0);
        }
    }

    /** The contents of a commit, file by file; files that are not given are due to be 0. */
    void committed(VersionDepot depot, int commit, int... want) {
        for (int file = 0; file < 16; file++) {
            due("at(" + commit + ", " + file + ")", depot.at(commit, file), file < want.length ? want[file] : 0);
        }
    }

    /** How many blobs, folders, roots and commits are stored. */
    void stored(VersionDepot depot, int blobs, int folders, int roots, int commits) {
        due("count(0)", depot.count(0), blobs);
        due("count(1)", depot.count(1), folders);
        due("count(2)", depot.count(2), roots);
        due("count(3)", depot.count(3), commits);
    }

    /** Commits contents of the first files, which must be something new. */
    void commit(VersionDepot depot, int number, int... contents) {
        for (int file = 0; file < contents.length; file++) {
            put(depot, file, contents[file]);
        }
        due("commit()", depot.commit(), number);
    }

    void put(VersionDepot depot, int file, int content) {
        due("write(" + file + ", " + content + ")", depot.write(file, content), 0);
        due("stage(" + file + ")", depot.stage(file), 0);
    }

    /** Makes commits on HEAD, each with another content of file 0, until there are 30. */
    void fill(VersionDepot depot) {
        for (int number = depot.count(4) + 1; number <= 30; number++) {
            commit(depot, number, 9000 + number);
        }
    }

    void end() {
        System.out.println(calls + " answers looked at, " + wrong + " not as due");
        if (wrong != 0 || calls == 0) {
            System.exit(1);
        }
    }
}
