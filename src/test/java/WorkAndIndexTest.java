/** Promises 2 (write), 3 (stage) and 13 (content). */
public final class WorkAndIndexTest {
    public static void main(String[] args) {
        Check check = new Check();
        writeChangesWorkAlone(check);
        writeRefuses(check);
        stageBringsWorkToIndex(check);
        stageStoresBlobsOnce(check);
        stageRefuses(check);
        contentRefuses(check);
        check.end();
    }

    private static void writeChangesWorkAlone(Check check) {
        VersionDepot depot = new VersionDepot();
        check.due("write(0, 1)", depot.write(0, 1), 0);
        check.due("write(15, 9999)", depot.write(15, 9999), 0);
        check.due("write(7, 4)", depot.write(7, 4), 0);
        check.due("write(7, 0)", depot.write(7, 0), 0);
        check.contents(depot, 0, 1, 0, 0, 0, 0, 0, 0, 0, 0, 0, 0, 0, 0, 0, 0, 9999);
        check.contents(depot, 1);
        check.stored(depot, 0, 0, 0, 0);
        check.due("count(9)", depot.count(9), 2);
    }

    private static void writeRefuses(Check check) {
        VersionDepot depot = new VersionDepot();
        int[] badFiles = {-1, 16, Integer.MIN_VALUE, Integer.MAX_VALUE};
        for (int file : badFiles) {
            check.due("write(" + file + ", 1)", depot.write(file, 1), VersionDepot.REFUSED);
        }
        int[] badContents = {-1, 10000, Integer.MIN_VALUE, Integer.MAX_VALUE};
        for (int content : badContents) {
            check.due("write(0, " + content + ")", depot.write(0, content), VersionDepot.REFUSED);
        }
        check.contents(depot, 0);
    }

    private static void stageBringsWorkToIndex(Check check) {
        VersionDepot depot = new VersionDepot();
        depot.write(0, 3);
        depot.write(1, 4);
        check.due("stage(1)", depot.stage(1), 0);
        check.contents(depot, 1, 0, 4);
        depot.write(1, 6);
        check.contents(depot, 1, 0, 4);
        check.contents(depot, 0, 3, 6);
        depot.write(1, 0);
        check.due("stage(1)", depot.stage(1), 0);
        check.contents(depot, 1);
        check.put(depot, 15, 2);
        check.due("content(1, 15)", depot.content(1, 15), 2);
    }

    private static void stageStoresBlobsOnce(Check check) {
        VersionDepot depot = new VersionDepot();
        check.due("stage(0)", depot.stage(0), 0);
        check.stored(depot, 0, 0, 0, 0);
        check.put(depot, 0, 1);
        check.put(depot, 5, 1);
        check.stored(depot, 1, 0, 0, 0);
        check.put(depot, 0, 9999);
        check.put(depot, 5, 9999);
        check.stored(depot, 2, 0, 0, 0);
        // Contents that are a word of bits apart must not be taken for one another.
        check.put(depot, 0, 63);
        check.put(depot, 0, 64);
        check.put(depot, 0, 65);
        check.put(depot, 0, 128);
        check.stored(depot, 6, 0, 0, 0);
    }

    private static void stageRefuses(Check check) {
        VersionDepot depot = new VersionDepot();
        depot.write(0, 3);
        int[] bad = {-1, 16, 32, Integer.MIN_VALUE, Integer.MAX_VALUE};
        for (int file : bad) {
            check.due("stage(" + file + ")", depot.stage(file), VersionDepot.REFUSED);
        }
        check.contents(depot, 1);
        check.stored(depot, 0, 0, 0, 0);
    }

    private static void contentRefuses(Check check) {
        VersionDepot depot = new VersionDepot();
        int[] bad = {-1, 16, Integer.MIN_VALUE, Integer.MAX_VALUE};
        for (int file : bad) {
            check.due("content(0, " + file + ")", depot.content(0, file), VersionDepot.REFUSED);
            check.due("content(1, " + file + ")", depot.content(1, file), VersionDepot.REFUSED);
        }
        int[] nowhere = {-1, 2, Integer.MIN_VALUE, Integer.MAX_VALUE};
        for (int where : nowhere) {
            check.due("content(" + where + ", 0)", depot.content(where, 0), VersionDepot.REFUSED);
        }
    }
}
