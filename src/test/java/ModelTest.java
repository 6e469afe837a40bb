import java.util.Random;

/** All promises: long runs of mixed calls, each answered as the model of the document answers it. */
public final class ModelTest {
    private static final int RUNS = 3000;
    /** The document's 512 calls less the 94 that look at the whole state in the end. */
    private static final int CALLS = 512 - 94;

    private final Check check = new Check();
    /** The seed is fixed: every run of the test makes the same calls. */
    private final Random random = new Random(20);
    /** How often each answer below 0, and 0 or more, came of merge and pick; none may stay unseen. */
    private final int[] mergeAnswers = new int[7];
    private final int[] pickAnswers = new int[7];

    private VersionDepot depot;
    private Model model;
    private int files;
    private int contents;
    private int branches;
    /** The more kinds of change there are, the more of them are edits. */
    private int kinds;

    public static void main(String[] args) {
        ModelTest test = new ModelTest();
        for (int run = 0; run < RUNS; run++) {
            test.run();
        }
        test.seen("merge", test.mergeAnswers);
        test.seen("pick", test.pickAnswers);
        test.check.end();
    }

    private void run() {
        depot = new VersionDepot();
        model = new Model();
        files = 1 + random.nextInt(16);
        contents = random.nextInt(8) == 0 ? 9999 : 1 + random.nextInt(4);
        branches = 2 + random.nextInt(5);
        kinds = random.nextInt(3) == 0 ? 40 : 24;
        int start = check.calls();
        // An edit is three calls at most, so this ends with no more than CALLS of them.
        while (check.calls() - start <= CALLS - 3) {
            if (random.nextInt(4) == 0) {
                look();
            } else {
                change();
            }
        }
        lookAtAll();
    }

    /** A number that is mostly within first .. last, at times just outside and at times far outside. */
    private int number(int first, int last) {
        switch (random.nextInt(40)) {
            case 0:
                return first - 1;
            case 1:
                return last + 1;
            case 2:
                return random.nextInt();
            default:
                return first + random.nextInt(last - first + 1);
        }
    }

    private int file() {
        return random.nextInt(20) == 0 ? number(0, 15) : random.nextInt(files);
    }

    private int branch() {
        return number(0, branches - 1);
    }

    private int commit() {
        return number(1, Math.max(1, model.count(4)));
    }

    private void change() {
        int kind = random.nextInt(kinds);
        if (kind < 5) {
            edit();
        } else if (kind < 8) {
            check.due("commit()", depot.commit(), model.commit());
        } else if (kind < 10) {
            int branch = branch();
            check.due("branch(" + branch + ")", depot.branch(branch), model.branch(branch));
        } else if (kind < 13) {
            int branch = branch();
            check.due("turn(" + branch + ")", depot.turn(branch), model.turn(branch));
        } else if (kind < 17) {
            mergeOrPick();
        } else if (kind < 18) {
            check.due("abort()", depot.abort(), model.abort());
        } else if (kind < 20) {
            int commit = commit();
            check.due("reset(" + commit + ")", depot.reset(commit), model.reset(commit));
        } else if (kind < 21) {
            int branch = branch();
            check.due("remove(" + branch + ")", depot.remove(branch), model.remove(branch));
        } else if (kind < 22) {
            check.due("sweep()", depot.sweep(), model.sweep());
        } else {
            edit();
        }
    }

    /** Mostly writes and stages the same file, so that a tidy state comes about often. */
    private void edit() {
        int file = file();
        int content = random.nextInt(5) == 0 ? 0 : number(1, contents);
        if (random.nextInt(6) != 0) {
            check.due("write(" + file + ", " + content + ")", depot.write(file, content), model.write(file, content));
        }
        if (random.nextInt(6) != 0) {
            check.due("stage(" + file + ")", depot.stage(file), model.stage(file));
        }
        if (random.nextInt(3) == 0) {
            check.due("commit()", depot.commit(), model.commit());
        }
    }

    private void mergeOrPick() {
        if (random.nextInt(2) == 0) {
            int branch = branch();
            int answer = model.merge(branch);
            mergeAnswers[Math.min(answer, 1) + 5]++;
            check.due("merge(" + branch + ")", depot.merge(branch), answer);
        } else {
            int commit = commit();
            int answer = model.pick(commit);
            pickAnswers[Math.min(answer, 1) + 5]++;
            check.due("pick(" + commit + ")", depot.pick(commit), answer);
        }
    }

    private void look() {
        int file = file();
        int a = commit();
        int b = commit();
        switch (random.nextInt(8)) {
            case 0 -> lookAtContent(number(0, 1), file);
            case 1 -> check.due("at(" + a + ", " + file + ")", depot.at(a, file), model.at(a, file));
            case 2 -> lookAtParent(a, number(0, 1));
            case 3 -> lookAtBranch(number(0, 5));
            case 4 -> check.due("common(" + a + ", " + b + ")", depot.common(a, b), model.common(a, b));
            case 5 -> check.due("differ(" + a + ", " + b + ")", depot.differ(a, b), model.differ(a, b));
            case 6 -> check.due("clashing(" + file + ")", depot.clashing(file), model.clashing(file));
            default -> lookAtCount(number(0, 9));
        }
    }

    private void lookAtContent(int where, int file) {
        check.due("content(" + where + ", " + file + ")", depot.content(where, file), model.content(where, file));
    }

    private void lookAtParent(int commit, int which) {
        check.due("parent(" + commit + ", " + which + ")", depot.parent(commit, which), model.parent(commit, which));
    }

    private void lookAtBranch(int branch) {
        check.due("branchAt(" + branch + ")", depot.branchAt(branch), model.branchAt(branch));
    }

    private void lookAtCount(int what) {
        check.due("count(" + what + ")", depot.count(what), model.count(what));
    }

    private void lookAtAll() {
        for (int file = 0; file < 16; file++) {
            lookAtContent(0, file);
            lookAtContent(1, file);
            check.due("clashing(" + file + ")", depot.clashing(file), model.clashing(file));
        }
        for (int branch = 0; branch < 6; branch++) {
            lookAtBranch(branch);
        }
        for (int what = 0; what < 10; what++) {
            lookAtCount(what);
        }
        for (int commit = 1; commit <= 30; commit++) {
            check.due("at(" + commit + ", 0)", depot.at(commit, 0), model.at(commit, 0));
        }
    }

    private void seen(String call, int[] answers) {
        for (int place = 0; place < answers.length; place++) {
            // Only pick can find the same, and only merge has nothing to do.
            boolean never = place == (call.equals("merge") ? 2 : 5);
            check.due(call + " answers " + (place - 5), answers[place] > 0, !never);
        }
    }
}
