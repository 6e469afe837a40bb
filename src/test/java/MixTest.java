/** Terms: "To MIX x, y with z", each way in which three contents can be alike, at the edges of folders. */
public final class MixTest {
    private static final int CLASH = VersionDepot.CLASH;

    public static void main(String[] args) {
        Check check = new Check();
        for (int file : new int[] {0, 3, 4, 15}) {
            for (int way = 0; way < 27; way++) {
                merge(check, file, way / 9, way / 3 % 3, way % 3);
                pick(check, file, way / 9, way / 3 % 3, way % 3);
            }
        }
        check.end();
    }

    private static boolean isClash(int x, int y, int z) {
        return x != y && x != z && y != z;
    }

    /** "x and y alike: that; x as z: y's; y as z: x's; else it is a CLASH, and stays x's". */
    private static int mixed(int x, int y, int z) {
        if (x == y) {
            return x;
        }
        return x == z ? y : x;
    }

    /** Files 7, 8 and 9 are marks: with them no commit is as another, whatever the file has. */
    private static VersionDepot apart(int file, int x, int y, int z) {
        VersionDepot depot = new VersionDepot();
        step(depot, 7, file, z);
        depot.branch(1);
        step(depot, 8, file, x);
        depot.turn(1);
        step(depot, 9, file, y);
        depot.turn(0);
        return depot;
    }

    private static void step(VersionDepot depot, int mark, int file, int content) {
        Situation.put(depot, mark, 500);
        Situation.put(depot, file, content);
        depot.commit();
    }

    private static String ways(String call, int x, int y, int z) {
        return "x " + x + ", y " + y + ", z " + z + ": " + call;
    }

    private static void merge(Check check, int file, int x, int y, int z) {
        VersionDepot depot = apart(file, x, y, z);
        boolean clash = isClash(x, y, z);
        check.due(ways("merge(1)", x, y, z), depot.merge(1), clash ? CLASH : 4);
        check.due(ways("clashing", x, y, z), depot.clashing(file), clash);
        check.due("count(7)", depot.count(7), clash ? 3 : 0);
        check.due("count(8)", depot.count(8), clash ? 1 : 0);
        check.due("count(6)", depot.count(6), clash ? 2 : 4);
        for (int where = 0; where <= 1; where++) {
            check.due(ways("content", x, y, z), depot.content(where, file), mixed(x, y, z));
            for (int mark = 7; mark <= 9; mark++) {
                check.due("content(" + where + ", " + mark + ")", depot.content(where, mark), 500);
            }
        }
        check.due(ways("at(4)", x, y, z), depot.at(4, file), clash ? VersionDepot.REFUSED : mixed(x, y, z));
    }

    /** The commit's first parent is the base here as well, since it is made right on it. */
    private static void pick(Check check, int file, int x, int y, int z) {
        VersionDepot depot = apart(file, x, y, z);
        boolean clash = isClash(x, y, z);
        check.due(ways("pick(3)", x, y, z), depot.pick(3), clash ? CLASH : 4);
        check.due("count(7)", depot.count(7), 0);
        check.due("count(8)", depot.count(8), 0);
        check.due("count(6)", depot.count(6), clash ? 2 : 4);
        check.due(ways("content", x, y, z), depot.content(0, file), clash ? x : mixed(x, y, z));
        check.due(ways("content", x, y, z), depot.content(1, file), clash ? x : mixed(x, y, z));
        check.due("content(1, 9)", depot.content(1, 9), clash ? 0 : 500);
        check.due(ways("at(4)", x, y, z), depot.at(4, file), clash ? VersionDepot.REFUSED : mixed(x, y, z));
    }
}
