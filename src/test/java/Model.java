import java.util.ArrayList;
import java.util.HashSet;
import java.util.List;
import java.util.Set;
import java.util.TreeSet;

/** The document's words in the library's sets and lists, as unlike the class's own way as can be. */
final class Model {
    private static final int FILES = 16;

    record Commit(List<Integer> contents, List<Integer> parents) { }

    private final List<Commit> made = new ArrayList<>();
    private final Set<Integer> commits = new HashSet<>();
    private final Set<Integer> blobs = new HashSet<>();
    private final Set<List<Integer>> folders = new HashSet<>();
    private final Set<List<Integer>> roots = new HashSet<>();
    private final Integer[] branches = new Integer[6];
    private final Set<Integer> clashing = new TreeSet<>();
    private List<Integer> work = nothing();
    private List<Integer> index = nothing();
    private int head = 0;
    private Integer merge = null;

    private static List<Integer> nothing() {
        List<Integer> contents = new ArrayList<>();
        for (int file = 0; file < FILES; file++) {
            contents.add(0);
        }
        return contents;
    }

    private static boolean within(int number, int first, int last) {
        return number >= first && number <= last;
    }

    private int here() {
        return branches[head] == null ? 0 : branches[head];
    }

    private boolean there(int branch) {
        return within(branch, 0, 5) && branches[branch] != null;
    }

    private List<Integer> of(int commit) {
        return commit == 0 ? nothing() : made.get(commit - 1).contents();
    }

    private Set<Integer> ancestors(int commit) {
        Set<Integer> all = new TreeSet<>();
        if (commit != 0) {
            all.add(commit);
            for (int parent : made.get(commit - 1).parents()) {
                all.addAll(ancestors(parent));
            }
        }
        return all;
    }

    private boolean tidy() {
        return work.equals(index) && index.equals(of(here()));
    }

    private void store(List<Integer> contents) {
        for (int folder = 0; folder < 4; folder++) {
            List<Integer> row = List.copyOf(contents.subList(folder * 4, folder * 4 + 4));
            if (!row.equals(List.of(0, 0, 0, 0))) {
                folders.add(row);
            }
        }
        roots.add(List.copyOf(contents));
        storeBlobs(contents);
    }

    private void storeBlobs(List<Integer> contents) {
        for (int content : contents) {
            if (content != 0) {
                blobs.add(content);
            }
        }
    }

    private int make(List<Integer> contents, List<Integer> parents) {
        made.add(new Commit(List.copyOf(contents), parents));
        commits.add(made.size());
        store(contents);
        branches[head] = made.size();
        return made.size();
    }

    private void takeHere() {
        index = new ArrayList<>(of(here()));
        work = new ArrayList<>(index);
    }

    private static List<Integer> mix(List<Integer> xs, List<Integer> ys, List<Integer> zs, Set<Integer> clashes) {
        List<Integer> mixture = new ArrayList<>();
        for (int file = 0; file < FILES; file++) {
            int x = xs.get(file);
            int y = ys.get(file);
            int z = zs.get(file);
            if (x == y) {
                mixture.add(x);
            } else if (x == z) {
                mixture.add(y);
            } else if (y == z) {
                mixture.add(x);
            } else {
                mixture.add(x);
                clashes.add(file);
            }
        }
        return mixture;
    }

    int write(int file, int content) {
        if (!within(file, 0, 15) || !within(content, 0, 9999)) {
            return -1;
        }
        work.set(file, content);
        return 0;
    }

    int stage(int file) {
        if (!within(file, 0, 15)) {
            return -1;
        }
        index.set(file, work.get(file));
        storeBlobs(List.of(work.get(file)));
        clashing.remove(file);
        return 0;
    }

    int commit() {
        if (!clashing.isEmpty()) {
            return -5;
        }
        if (merge == null && index.equals(of(here()))) {
            return -3;
        }
        if (made.size() == 30) {
            return -2;
        }
        List<Integer> parents = new ArrayList<>();
        if (here() != 0) {
            parents.add(here());
        }
        if (merge != null) {
            parents.add(merge);
        }
        merge = null;
        return make(index, parents);
    }

    int branch(int branch) {
        if (!within(branch, 0, 5) || there(branch) || here() == 0) {
            return -1;
        }
        branches[branch] = here();
        return 0;
    }

    int turn(int branch) {
        if (!there(branch) || merge != null) {
            return -1;
        }
        if (!tidy()) {
            return -4;
        }
        head = branch;
        takeHere();
        return here();
    }

    int merge(int branch) {
        if (!there(branch) || here() == 0 || merge != null) {
            return -1;
        }
        if (!tidy()) {
            return -4;
        }
        int other = branches[branch];
        if (ancestors(here()).contains(other)) {
            return 0;
        }
        if (ancestors(other).contains(here())) {
            branches[head] = other;
            takeHere();
            return other;
        }
        Set<Integer> clashes = new TreeSet<>();
        List<Integer> mixture = mix(of(here()), of(other), of(meeting(here(), other)), clashes);
        if (clashes.isEmpty()) {
            if (made.size() == 30) {
                return -2;
            }
            make(mixture, List.of(here(), other));
            takeHere();
            return here();
        }
        index = new ArrayList<>(mixture);
        work = new ArrayList<>(mixture);
        merge = other;
        clashing.addAll(clashes);
        return -5;
    }

    private int meeting(int a, int b) {
        int greatest = 0;
        for (int commit : ancestors(a)) {
            if (ancestors(b).contains(commit)) {
                greatest = Math.max(greatest, commit);
            }
        }
        return greatest;
    }

    int abort() {
        if (merge == null) {
            return -1;
        }
        merge = null;
        clashing.clear();
        takeHere();
        return 0;
    }

    int pick(int commit) {
        if (!commits.contains(commit) || here() == 0 || merge != null) {
            return -1;
        }
        if (!tidy()) {
            return -4;
        }
        List<Integer> parents = made.get(commit - 1).parents();
        Set<Integer> clashes = new TreeSet<>();
        List<Integer> mixture = mix(of(here()), of(commit), of(parents.isEmpty() ? 0 : parents.get(0)), clashes);
        if (!clashes.isEmpty()) {
            return -5;
        }
        if (mixture.equals(of(here()))) {
            return -3;
        }
        if (made.size() == 30) {
            return -2;
        }
        make(mixture, List.of(here()));
        takeHere();
        return here();
    }

    int reset(int commit) {
        if (!commits.contains(commit) || merge != null) {
            return -1;
        }
        branches[head] = commit;
        takeHere();
        return 0;
    }

    int remove(int branch) {
        if (!there(branch) || branch == head) {
            return -1;
        }
        branches[branch] = null;
        return 0;
    }

    int sweep() {
        int before = blobs.size() + folders.size() + roots.size() + commits.size();
        commits.clear();
        blobs.clear();
        folders.clear();
        roots.clear();
        for (Integer commit : branches) {
            if (commit != null) {
                commits.addAll(ancestors(commit));
            }
        }
        if (merge != null) {
            commits.addAll(ancestors(merge));
        }
        for (int commit : commits) {
            store(of(commit));
        }
        storeBlobs(index);
        return before - (blobs.size() + folders.size() + roots.size() + commits.size());
    }

    int content(int where, int file) {
        if (!within(where, 0, 1) || !within(file, 0, 15)) {
            return -1;
        }
        return (where == 0 ? work : index).get(file);
    }

    int at(int commit, int file) {
        return commits.contains(commit) && within(file, 0, 15) ? of(commit).get(file) : -1;
    }

    int parent(int commit, int which) {
        if (!commits.contains(commit) || !within(which, 0, 1)) {
            return -1;
        }
        List<Integer> parents = made.get(commit - 1).parents();
        return which < parents.size() ? parents.get(which) : 0;
    }

    int branchAt(int branch) {
        if (!within(branch, 0, 5)) {
            return -1;
        }
        return there(branch) ? branches[branch] : 0;
    }

    int common(int a, int b) {
        return commits.contains(a) && commits.contains(b) ? meeting(a, b) : -1;
    }

    int differ(int a, int b) {
        return commits.contains(a) && commits.contains(b) ? differing(of(a), of(b)) : -1;
    }

    private static int differing(List<Integer> some, List<Integer> others) {
        int differing = 0;
        for (int file = 0; file < FILES; file++) {
            if (!some.get(file).equals(others.get(file))) {
                differing++;
            }
        }
        return differing;
    }

    boolean clashing(int file) {
        return clashing.contains(file);
    }

    int count(int what) {
        return switch (what) {
            case 0 -> blobs.size();
            case 1 -> folders.size();
            case 2 -> roots.size();
            case 3 -> commits.size();
            case 4 -> made.size();
            case 5 -> head;
            case 6 -> here();
            case 7 -> merge == null ? 0 : merge;
            case 8 -> clashing.size();
            case 9 -> differing(work, index);
            default -> -1;
        };
    }
}
