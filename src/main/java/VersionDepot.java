/** A store of versions; ../shared/DOC.md says what each call promises. */
public final class VersionDepot {
    public static final int REFUSED = -1;
    public static final int FULL = -2;
    public static final int SAME = -3;
    public static final int UNTIDY = -4;
    public static final int CLASH = -5;

    private static final int FILES = 16;
    /** Both the files in a folder and the folders in a root. */
    private static final int WIDTH = 4;
    private static final int LAST_CONTENT = 9999;
    private static final int BRANCHES = 6;
    private static final int COMMITS = 30;

    private final Store store;
    private final int[] work;
    private final int[] index;
    private final int[] mixture;
    /** The commit that each branch is at, 0 if the branch is not there. */
    private final int[] tips;
    private int head;
    /** The commit of the merge under way, 0 if there is none. */
    private int merging;
    /** Bit f is set while file f is CLASHING. */
    private int clashes;

    public VersionDepot() {
        store = new Store();
        work = new int[FILES];
        index = new int[FILES];
        mixture = new int[FILES];
        tips = new int[BRANCHES];
    }

    public int write(int file, int content) {
        if (!isFile(file) || content < 0 || content > LAST_CONTENT) {
            return REFUSED;
        }
        work[file] = content;
        return 0;
    }

    public int stage(int file) {
        if (!isFile(file)) {
            return REFUSED;
        }
        index[file] = work[file];
        store.blobs.keep(index[file]);
        clashes &= ~(1 << file);
        return 0;
    }

    public int commit() {
        if (clashes != 0) {
            return CLASH;
        }
        if (merging == 0 && isAsHere(index)) {
            return SAME;
        }
        if (store.isFull()) {
            return FULL;
        }
        tips[head] = store.make(index, here(), merging);
        merging = 0;
        return here();
    }

    public int branch(int branch) {
        if (!isBranch(branch) || tips[branch] != 0 || here() == 0) {
            return REFUSED;
        }
        tips[branch] = here();
        return 0;
    }

    public int turn(int branch) {
        if (!isThere(branch) || merging != 0) {
            return REFUSED;
        }
        if (!isTidy()) {
            return UNTIDY;
        }
        head = branch;
        return moveTo(tips[branch]);
    }

    public int merge(int branch) {
        if (!isThere(branch) || here() == 0 || merging != 0) {
            return REFUSED;
        }
        if (!isTidy()) {
            return UNTIDY;
        }
        int other = tips[branch];
        if (store.leadsTo(here(), other)) {
            return 0;
        }
        if (store.leadsTo(other, here())) {
            return moveTo(other);
        }
        return mergeApart(other);
    }

    public int abort() {
        if (merging == 0) {
            return REFUSED;
        }
        merging = 0;
        clashes = 0;
        moveTo(here());
        return 0;
    }

    public int pick(int commit) {
        if (!store.holds(commit) || here() == 0 || merging != 0) {
            return REFUSED;
        }
        if (!isTidy()) {
            return UNTIDY;
        }
        if (mixHereWith(commit, store.parentOf(commit, 0)) != 0) {
            return CLASH;
        }
        if (isAsHere(mixture)) {
            return SAME;
        }
        if (store.isFull()) {
            return FULL;
        }
        return moveTo(store.make(mixture, here(), 0));
    }

    public int reset(int commit) {
        if (!store.holds(commit) || merging != 0) {
            return REFUSED;
        }
        moveTo(commit);
        return 0;
    }

    public int remove(int branch) {
        if (!isThere(branch) || branch == head) {
            return REFUSED;
        }
        tips[branch] = 0;
        return 0;
    }

    public int sweep() {
        int before = store.size();
        int needed = store.ancestorsOf(merging);
        for (int branch = 0; branch < BRANCHES; branch++) {
            needed |= store.ancestorsOf(tips[branch]);
        }
        store.keepOnly(needed);
        for (int file = 0; file < FILES; file++) {
            store.blobs.keep(index[file]);
        }
        return before - store.size();
    }

    public int content(int where, int file) {
        if (!isFile(file)) {
            return REFUSED;
        }
        switch (where) {
            case 0:
                return work[file];
            case 1:
                return index[file];
            default:
                return REFUSED;
        }
    }

    public int at(int commit, int file) {
        if (!store.holds(commit) || !isFile(file)) {
            return REFUSED;
        }
        return store.contentOf(commit, file);
    }

    public int parent(int commit, int which) {
        if (!store.holds(commit) || which < 0 || which > 1) {
            return REFUSED;
        }
        return store.parentOf(commit, which);
    }

    public int branchAt(int branch) {
        return isBranch(branch) ? tips[branch] : REFUSED;
    }

    public int common(int a, int b) {
        if (!store.holds(a) || !store.holds(b)) {
            return REFUSED;
        }
        return store.meetingOf(a, b);
    }

    public int differ(int a, int b) {
        if (!store.holds(a) || !store.holds(b)) {
            return REFUSED;
        }
        int others = 0;
        for (int file = 0; file < FILES; file++) {
            if (store.contentOf(a, file) != store.contentOf(b, file)) {
                others++;
            }
        }
        return others;
    }

    public boolean clashing(int file) {
        return isFile(file) && (clashes & (1 << file)) != 0;
    }

    public int count(int what) {
        switch (what) {
            case 0:
                return store.blobs.size();
            case 1:
                return store.folders.size();
            case 2:
                return store.roots.size();
            case 3:
                return store.commits();
            case 4:
                return store.made;
            case 5:
                return head;
            case 6:
                return here();
            case 7:
                return merging;
            case 8:
                return Integer.bitCount(clashes);
            case 9:
                return unstaged();
            default:
                return REFUSED;
        }
    }

    private static boolean isFile(int file) {
        return file >= 0 && file < FILES;
    }

    private static boolean isBranch(int branch) {
        return branch >= 0 && branch < BRANCHES;
    }

    private boolean isThere(int branch) {
        return isBranch(branch) && tips[branch] != 0;
    }

    private int here() {
        return tips[head];
    }

    private boolean isTidy() {
        return unstaged() == 0 && isAsHere(index);
    }

    private int unstaged() {
        int others = 0;
        for (int file = 0; file < FILES; file++) {
            if (work[file] != index[file]) {
                others++;
            }
        }
        return others;
    }

    private boolean isAsHere(int[] contents) {
        for (int file = 0; file < FILES; file++) {
            if (contents[file] != store.contentOf(here(), file)) {
                return false;
            }
        }
        return true;
    }

    /** Puts HEAD at the commit, with INDEX and WORK as it, and answers the commit. */
    private int moveTo(int commit) {
        tips[head] = commit;
        for (int file = 0; file < FILES; file++) {
            index[file] = store.contentOf(commit, file);
            work[file] = index[file];
        }
        return commit;
    }

    /** Merges a commit when neither it nor HERE is an ancestor of the other. */
    private int mergeApart(int other) {
        int found = mixHereWith(other, store.meetingOf(here(), other));
        if (found == 0) {
            return store.isFull() ? FULL : moveTo(store.make(mixture, here(), other));
        }
        System.arraycopy(mixture, 0, index, 0, FILES);
        System.arraycopy(mixture, 0, work, 0, FILES);
        merging = other;
        clashes = found;
        return CLASH;
    }

    /** MIXES HERE and the other with the base into the mixture, and answers the bits of the files that clash. */
    private int mixHereWith(int other, int base) {
        int found = 0;
        for (int file = 0; file < FILES; file++) {
            int x = store.contentOf(here(), file);
            int y = store.contentOf(other, file);
            int z = store.contentOf(base, file);
            mixture[file] = x == z ? y : x;
            if (x != y && x != z && y != z) {
                found |= 1 << file;
            }
        }
        return found;
    }

    /** The stored objects: a commit leads to a root, a root to folders, a folder to contents. */
    private static final class Store {
        final Blobs blobs;
        final Rows folders;
        final Rows roots;
        final int[] rootOf;
        final int[] firstParents;
        final int[] secondParents;
        /** Bit n of a commit's ancestors is set if commit n is one of them. */
        final int[] ancestors;
        final int[] folderRow;
        int made;
        /** Bit n is set while commit n is stored. */
        int stored;

        Store() {
            blobs = new Blobs();
            folders = new Rows(COMMITS * WIDTH);
            roots = new Rows(COMMITS);
            rootOf = new int[COMMITS + 1];
            firstParents = new int[COMMITS + 1];
            secondParents = new int[COMMITS + 1];
            ancestors = new int[COMMITS + 1];
            folderRow = new int[WIDTH];
        }

        boolean isFull() {
            return made >= COMMITS;
        }

        boolean holds(int commit) {
            return commit >= 1 && commit <= COMMITS && (stored & (1 << commit)) != 0;
        }

        int commits() {
            return Integer.bitCount(stored);
        }

        int size() {
            return blobs.size() + folders.size() + roots.size() + commits();
        }

        int contentOf(int commit, int file) {
            return folders.get(roots.get(rootOf[commit], file / WIDTH), file % WIDTH);
        }

        int parentOf(int commit, int which) {
            return which == 0 ? firstParents[commit] : secondParents[commit];
        }

        int ancestorsOf(int commit) {
            return ancestors[commit];
        }

        boolean leadsTo(int commit, int ancestor) {
            return (ancestors[commit] & (1 << ancestor)) != 0;
        }

        int meetingOf(int a, int b) {
            int shared = ancestors[a] & ancestors[b];
            int commit = COMMITS;
            while (commit > 0 && (shared & (1 << commit)) == 0) {
                commit--;
            }
            return commit;
        }

        /** Only for a store that is not full; a parent that the commit has not is 0. */
        int make(int[] contents, int first, int second) {
            made++;
            rootOf[made] = keepRoot(contents);
            firstParents[made] = first;
            secondParents[made] = second;
            ancestors[made] = (1 << made) | ancestors[first] | ancestors[second];
            stored |= 1 << made;
            return made;
        }

        int keepRoot(int[] contents) {
            for (int folder = 0; folder < WIDTH; folder++) {
                folderRow[folder] = keepFolder(contents, folder * WIDTH);
            }
            return roots.keep(folderRow, 0);
        }

        int keepFolder(int[] contents, int from) {
            int present = 0;
            for (int file = from; file < from + WIDTH; file++) {
                present |= contents[file];
                blobs.keep(contents[file]);
            }
            return present == 0 ? 0 : folders.keep(contents, from);
        }

        /** Forgets all objects, then stores again what the needed commits lead to. */
        void keepOnly(int needed) {
            blobs.clear();
            folders.clear();
            roots.clear();
            stored = needed;
            for (int commit = 1; commit <= made; commit++) {
                if (holds(commit)) {
                    keepAgain(rootOf[commit]);
                }
            }
        }

        void keepAgain(int root) {
            roots.keepAgain(root);
            for (int place = 0; place < WIDTH; place++) {
                int folder = roots.get(root, place);
                folders.keepAgain(folder);
                for (int file = 0; file < WIDTH; file++) {
                    blobs.keep(folders.get(folder, file));
                }
            }
        }
    }

    /** A set of contents, a bit for each; 0 has no blob and is never in it. */
    private static final class Blobs {
        private static final int WORD = 64;

        final long[] bits;

        Blobs() {
            bits = new long[LAST_CONTENT / WORD + 1];
        }

        void keep(int content) {
            if (content != 0) {
                bits[content / WORD] |= 1L << (content % WORD);
            }
        }

        void clear() {
            for (int word = 0; word < bits.length; word++) {
                bits[word] = 0;
            }
        }

        int size() {
            int size = 0;
            for (int word = 0; word < bits.length; word++) {
                size += Long.bitCount(bits[word]);
            }
            return size;
        }
    }

    /**
     * Rows of four numbers, each known by its number from 1 on. A row keeps its number when it is swept,
     * so that equal numbers always mean equal rows. Row 0 is all 0 and never counted: through it commit 0
     * and folders that are all 0 read as 0.
     */
    private static final class Rows {
        final int[] numbers;
        final boolean[] stored;
        int last;

        Rows(int most) {
            numbers = new int[(most + 1) * WIDTH];
            stored = new boolean[most + 1];
        }

        int get(int row, int place) {
            return numbers[row * WIDTH + place];
        }

        /** Stores the row that starts at this place of the source, and answers its number. */
        int keep(int[] source, int from) {
            int row = 1;
            while (row <= last && !isAlike(row, source, from)) {
                row++;
            }
            if (row > last) {
                // The room is for what the most commits can bring, so there is always a row left.
                System.arraycopy(source, from, numbers, row * WIDTH, WIDTH);
                last = row;
            }
            stored[row] = true;
            return row;
        }

        boolean isAlike(int row, int[] source, int from) {
            for (int place = 0; place < WIDTH; place++) {
                if (numbers[row * WIDTH + place] != source[from + place]) {
                    return false;
                }
            }
            return true;
        }

        void keepAgain(int row) {
            stored[row] = true;
        }

        void clear() {
            for (int row = 0; row < stored.length; row++) {
                stored[row] = false;
            }
        }

        int size() {
            int size = 0;
            for (int row = 1; row <= last; row++) {
                if (stored[row]) {
                    size++;
                }
            }
            return size;
        }
    }
}
