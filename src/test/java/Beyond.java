import java.util.Set;
import java.util.TreeSet;

/** Numbers outside a range: next to it, far off, and those that a lost bit would bring back into it. */
final class Beyond {
    private static final int[] LOST_BITS = {4, 5, 6, 8, 16, 31};

    static final Set<Integer> FILES = range(0, 15);
    static final Set<Integer> BRANCHES = range(0, 5);
    static final Set<Integer> CONTENTS = range(0, 9999);
    static final Set<Integer> COMMITS = range(1, 30);
    static final Set<Integer> PLACES = range(0, 1);
    static final Set<Integer> COUNTS = range(0, 9);

    private Beyond() { }

    private static Set<Integer> range(int first, int last) {
        Set<Integer> numbers = new TreeSet<>(Set.of(first - 1, last + 1, Integer.MIN_VALUE, Integer.MAX_VALUE));
        for (int bit : LOST_BITS) {
            numbers.addAll(Set.of(first + (1 << bit), last + (1 << bit)));
            numbers.addAll(Set.of(first - (1 << bit), last - (1 << bit)));
        }
        numbers.removeIf(number -> number >= first && number <= last);
        return numbers;
    }
}
