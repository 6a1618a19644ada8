import java.util.ArrayList;
import java.util.Arrays;
import java.util.List;
import java.util.Random;
import java.util.TreeMap;

/**
 * Chance runs of calls (the same ones each time), each answered by the program and by a slow model
 * that holds rows in maps and the log as the old and new sides of each change.
 */
public final class RowReplicatorAgainstModel {
    private static final int RUNS = 3000;
    private static final int CALLS = 512;
    private static final int CALLS_OF_A_SWEEP = 190;
    // How often each kind of call is chosen: the calls in the document's order, behind the
    // constructor. Cuts and setting publications end what the others build up, so they are rare.
    private static final int[] WEIGHTS =
        {30, 6, 2, 18, 1, 2, 1, 1, 2, 2, 4, 1, 12, 24, 12, 12, 1, 1, 1, 4, 8};

    private static final long OUTSIDE = -1001;
    private static final long ARGUMENT = -1002;
    private static final long NOT_NOW = -1003;
    private static final long OTHER = -1004;

    private static int wrong = 0;

    public static void main(String[] args) {
        for (int run = 0; run < RUNS && wrong < 10; run++) {
            compare(run);
        }
        Model.sayHowOften();
        due(Model.everythingHappened(), "the chance runs reach too little");
        System.out.println(wrong == 0 ? "program and model agree" : "program and model differ");
        if (wrong != 0) {
            System.exit(1);
        }
    }

    private static void due(boolean holds, String what) {
        if (!holds) {
            wrong++;
            System.out.println(what);
        }
    }

    private static void compare(int run) {
        Random random = new Random(run);
        RowReplicator program = new RowReplicator();
        Model model = new Model();
        int numbers = run % 3 == 0 ? 100 : 4;
        int mistakes = run % 5 == 0 ? 8 : 200;
        int steps = run % 2 == 0 ? CALLS : CALLS - CALLS_OF_A_SWEEP;
        for (int step = 0; step < steps; step++) {
            int[] call = chosenCall(random, numbers, mistakes);
            long got = answer(program, call);
            long want = model.answer(call);
            due(got == want, "run " + run + " step " + step + " call " + Arrays.toString(call)
                + " answered " + got + ", due is " + want);
            if (got != want) {
                return;
            }
        }
        if (steps < CALLS) {
            sweep(run, program, model);
        }
    }

    /** Looks at all that can be seen. */
    private static void sweep(int run, RowReplicator program, Model model) {
        List<int[]> calls = new ArrayList<>();
        for (int subscriber = 0; subscriber < 3; subscriber++) {
            calls.add(new int[] {16, subscriber});
            calls.add(new int[] {17, subscriber});
            for (int table = 0; table < 2; table++) {
                calls.add(new int[] {18, subscriber, table});
                calls.add(new int[] {20, subscriber, table});
                for (int key = 0; key < 12; key++) {
                    calls.add(new int[] {19, subscriber, table, key, (run + key) % 3});
                }
            }
        }
        for (int table = 0; table < 2; table++) {
            for (int key = 0; key < 12; key++) {
                calls.add(new int[] {5, table, key, (run + key) % 3});
            }
        }
        for (int[] call : calls) {
            long got = answer(program, call);
            long want = model.answer(call);
            due(got == want, "run " + run + " at its end " + Arrays.toString(call)
                + " answered " + got + ", due is " + want);
        }
    }

    private static int chosenKind(Random random) {
        int left = random.nextInt(Arrays.stream(WEIGHTS).sum());
        int kind = 0;
        while (left >= WEIGHTS[kind]) {
            left -= WEIGHTS[kind];
            kind++;
        }
        return kind;
    }

    private static int[] chosenCall(Random random, int numbers, int mistakes) {
        int kind = chosenKind(random);
        int[][] ranges = rangesOf(kind, numbers);
        int[] call = new int[1 + ranges.length];
        call[0] = kind;
        for (int i = 0; i < ranges.length; i++) {
            int from = ranges[i][0];
            int to = ranges[i][1];
            call[1 + i] = from + random.nextInt(to - from + 1);
            boolean isBoolean = kind == 14 && i == 1;
            if (random.nextInt(mistakes) == 0 && !isBoolean) {
                int[] outside = {from - 1, ranges[i][2] + 1, Integer.MIN_VALUE, Integer.MAX_VALUE};
                call[1 + i] = outside[random.nextInt(outside.length)];
            }
        }
        return call;
    }

    /** For each argument: the lowest, the highest that is chosen, the highest that is allowed. */
    private static int[][] rangesOf(int kind, int numbers) {
        int[] table = {0, 1, 1};
        int[] key = {0, numbers == 100 ? 11 : 3, 11};
        int[] number = {0, numbers - 1, 99};
        int[] three = {0, 2, 2};
        switch (kind) {
            case 0: return new int[][] {table, key, number, number, number};
            case 1: return new int[][] {table, key};
            case 2: return new int[][] {table};
            case 3: case 4: case 6: return new int[][] {};
            case 5: return new int[][] {table, key, three};
            case 7: return new int[][] {{0, numbers == 100 ? 50 : 8, 50}};
            case 8: return new int[][] {three, table, three, three, number};
            case 9: return new int[][] {three, table, {0, 7, 7}};
            case 10: return new int[][] {three, three};
            case 11: case 16: case 17: return new int[][] {three};
            case 12: case 18: case 20: return new int[][] {three, table};
            case 13: return new int[][] {three, {1, numbers == 100 ? 50 : 3, 50}};
            case 14: return new int[][] {three, {0, 1, 1}};
            case 15: return new int[][] {three, table, key, {-1, numbers - 1, 99}};
            default: return new int[][] {three, table, key, three};
        }
    }

    private static long answer(RowReplicator x, int[] c) {
        try {
            switch (c[0]) {
                case 0: return x.put(c[1], c[2], c[3], c[4], c[5]) ? 1 : 0;
                case 1: x.take(c[1], c[2]); return 0;
                case 2: return x.truncate(c[1]);
                case 3: return x.commit();
                case 4: return x.rollBack();
                case 5: return x.at(c[1], c[2], c[3]);
                case 6: return x.commits();
                case 7: return x.setLimit(c[1]);
                case 8: return x.setCondition(c[1], c[2], c[3], c[4], c[5]);
                case 9: return x.setColumns(c[1], c[2], c[3]);
                case 10: return x.subscribe(c[1], c[2]);
                case 11: return x.drop(c[1]);
                case 12: return x.copy(c[1], c[2]);
                case 13: return x.receive(c[1], c[2]);
                case 14: return x.goOn(c[1], c[2] == 1);
                case 15: return x.own(c[1], c[2], c[3], c[4]) ? 1 : 0;
                case 16: return x.state(c[1]);
                case 17: return x.lag(c[1]);
                case 18: return x.copiedAt(c[1], c[2]);
                case 19: return x.seen(c[1], c[2], c[3], c[4]);
                default: return x.isFaithful(c[1], c[2]) ? 1 : 0;
            }
        } catch (RuntimeException e) {
            return e.getClass() == IndexOutOfBoundsException.class ? OUTSIDE
                : e.getClass() == IllegalArgumentException.class ? ARGUMENT
                : e.getClass() == IllegalStateException.class ? NOT_NOW : OTHER;
        }
    }

    /** One table's rows by key; a row is never changed once it is made. */
    private static final class Rows extends TreeMap<Integer, List<Integer>> {
        private static final long serialVersionUID = 1;

        Rows() {
        }

        Rows(Rows others) {
            super(others);
        }
    }

    private static final class Side {
        final int table;
        final int key;
        final List<Integer> oldRow;
        final List<Integer> newRow;

        Side(int table, int key, List<Integer> oldRow, List<Integer> newRow) {
            this.table = table;
            this.key = key;
            this.oldRow = oldRow;
            this.newRow = newRow;
        }
    }

    private static final class Follower {
        Rows[] rows = {new Rows(), new Rows()};
        final int[] copies = {-1, -1};
        int state = 0;
        int slot = 0;
        int publication = -1;
    }

    private static final class Model {
        private static final String[] WHAT = {"conflicts", "commits taken", "rows taken away",
            "cuts by commit", "cuts by limit", "skips", "faithful", "unfaithful", "copies forgotten",
            "51st commits", "13th changes", "faithful as of a copy"};
        private static final long[] HOW_OFTEN = new long[WHAT.length];

        final Rows[] rows = {new Rows(), new Rows()};
        final List<Side> open = new ArrayList<>();
        int openChanges = 0;
        final List<List<Side>> log = new ArrayList<>();
        final List<Rows[]> history = new ArrayList<>();
        final int[][][] conditions = new int[3][2][3];
        final int[][] lists = {{7, 7}, {7, 7}, {7, 7}};
        final Follower[] followers = {new Follower(), new Follower(), new Follower()};
        int limit = 20;

        Model() {
            history.add(new Rows[] {new Rows(), new Rows()});
        }

        static void sayHowOften() {
            for (int i = 0; i < WHAT.length; i++) {
                System.out.println(WHAT[i] + ": " + HOW_OFTEN[i]);
            }
        }

        static boolean everythingHappened() {
            for (int i = 0; i < WHAT.length; i++) {
                if (HOW_OFTEN[i] < 20) {
                    return false;
                }
            }
            return true;
        }

        long answer(int[] c) {
            long refused = refusalOfArguments(c);
            if (refused != 0) {
                return refused;
            }
            switch (c[0]) {
                case 0: return put(c[1], c[2], List.of(c[3], c[4], c[5]));
                case 1: return take(c[1], c[2]);
                case 2: return truncate(c[1]);
                case 3: return commit();
                case 4: return rollBack();
                case 5: return numberOf(rows[c[1]].get(c[2]), c[3]);
                case 6: return log.size();
                case 7: limit = c[1]; return cut(4);
                case 8: conditions[c[1]][c[2]] = new int[] {c[3], c[4], c[5]}; return forget(c[1], c[2]);
                case 9: lists[c[1]][c[2]] = c[3]; return forget(c[1], c[2]);
                case 10: return subscribe(followers[c[1]], 1, c[2]);
                case 11: return subscribe(followers[c[1]], 0, -1);
                case 12: return copy(followers[c[1]], c[2]);
                case 13: return receive(followers[c[1]], c[2]);
                case 14: return goOn(followers[c[1]], c[2] == 1);
                case 15: return own(followers[c[1]].rows[c[2]], c[3], c[4]);
                case 16: return followers[c[1]].state;
                case 17: return lag(followers[c[1]]);
                case 18: return followers[c[1]].copies[c[2]];
                case 19: return numberOf(followers[c[1]].rows[c[2]].get(c[3]), c[4]);
                default: return isFaithful(followers[c[1]], c[2]);
            }
        }

        /** An argument is told by a letter, those that name things that must exist ahead. */
        private static long refusalOfArguments(int[] c) {
            String[] arguments = {"tknnn", "tk", "t", "", "", "tkc", "", "l", "ptcrn", "pts", "pp",
                "p", "pt", "pm", "pb", "ptko", "p", "p", "pt", "ptkc", "pt"};
            String letters = "tkcpnlrsmbo";
            int[] lowest = {0, 0, 0, 0, 0, 0, 0, 0, 1, 0, -1};
            int[] highest = {1, 11, 2, 2, 99, 50, 2, 7, 50, 1, 99};
            long refused = 0;
            for (int i = 1; i < c.length; i++) {
                int letter = letters.indexOf(arguments[c[0]].charAt(i - 1));
                if (c[i] < lowest[letter] || c[i] > highest[letter]) {
                    refused = letter < 4 || refused == OUTSIDE ? OUTSIDE : ARGUMENT;
                }
            }
            return refused;
        }

        private static long numberOf(List<Integer> row, int column) {
            return row == null ? -1 : row.get(column);
        }

        private boolean full() {
            if (openChanges == 12) {
                HOW_OFTEN[10]++;
            }
            return openChanges == 12;
        }

        private void change(int table, int key, List<Integer> newRow) {
            open.add(new Side(table, key, rows[table].get(key), newRow));
            if (newRow == null) {
                rows[table].remove(key);
            } else {
                rows[table].put(key, newRow);
            }
        }

        private long put(int table, int key, List<Integer> row) {
            if (full()) {
                return NOT_NOW;
            }
            boolean isNew = !rows[table].containsKey(key);
            openChanges++;
            change(table, key, row);
            return isNew ? 1 : 0;
        }

        private long take(int table, int key) {
            if (full() || !rows[table].containsKey(key)) {
                return NOT_NOW;
            }
            openChanges++;
            change(table, key, null);
            return 0;
        }

        private long truncate(int table) {
            if (full()) {
                return NOT_NOW;
            }
            openChanges++;
            List<Integer> keys = new ArrayList<>(rows[table].keySet());
            for (int key : keys) {
                change(table, key, null);
            }
            return keys.size();
        }

        private long commit() {
            if (log.size() == 50) {
                HOW_OFTEN[9]++;
                return NOT_NOW;
            }
            log.add(new ArrayList<>(open));
            history.add(new Rows[] {new Rows(rows[0]), new Rows(rows[1])});
            open.clear();
            openChanges = 0;
            cut(3);
            return log.size();
        }

        private long rollBack() {
            for (int i = open.size() - 1; i >= 0; i--) {
                Side side = open.get(i);
                if (side.oldRow == null) {
                    rows[side.table].remove(side.key);
                } else {
                    rows[side.table].put(side.key, side.oldRow);
                }
            }
            long undone = openChanges;
            open.clear();
            openChanges = 0;
            return undone;
        }

        private long cut(int counter) {
            int cut = 0;
            for (Follower follower : followers) {
                if (lag(follower) > limit) {
                    follower.state = 3;
                    cut++;
                    HOW_OFTEN[counter]++;
                }
            }
            return cut;
        }

        private long lag(Follower follower) {
            return follower.state == 1 || follower.state == 2 ? log.size() - follower.slot : 0;
        }

        private long forget(int publication, int table) {
            int forgotten = 0;
            for (Follower follower : followers) {
                if (follower.publication == publication && follower.copies[table] >= 0) {
                    follower.copies[table] = -1;
                    forgotten++;
                    HOW_OFTEN[8]++;
                }
            }
            return forgotten;
        }

        private long subscribe(Follower follower, int state, int publication) {
            long before = follower.state;
            follower.state = state;
            follower.publication = publication;
            follower.slot = log.size();
            follower.copies[0] = -1;
            follower.copies[1] = -1;
            return before;
        }

        private boolean counts(int publication, int table, List<Integer> row) {
            int[] condition = conditions[publication][table];
            return row != null && (condition[1] == 0
                || (condition[1] == 1) == (row.get(condition[0]) < condition[2]));
        }

        private List<Integer> listed(int publication, int table, List<Integer> row) {
            List<Integer> listed = new ArrayList<>();
            for (int column = 0; column < 3; column++) {
                boolean isListed = (lists[publication][table] & (1 << column)) != 0;
                listed.add(isListed ? row.get(column) : 0);
            }
            return listed;
        }

        private Rows chosen(int publication, int table, Rows all) {
            Rows chosen = new Rows();
            for (int key : all.keySet()) {
                if (counts(publication, table, all.get(key))) {
                    chosen.put(key, listed(publication, table, all.get(key)));
                }
            }
            return chosen;
        }

        private long copy(Follower follower, int table) {
            if (follower.state != 1 || openChanges > 0) {
                return NOT_NOW;
            }
            follower.rows[table] = chosen(follower.publication, table, history.get(log.size())[table]);
            follower.copies[table] = log.size();
            return follower.rows[table].size();
        }

        private long receive(Follower follower, int most) {
            if (follower.state != 1) {
                return NOT_NOW;
            }
            int taken = 0;
            while (taken < most && follower.slot < log.size()) {
                Rows[] after = {new Rows(follower.rows[0]), new Rows(follower.rows[1])};
                for (Side side : log.get(follower.slot)) {
                    if (!changes(follower, side, after)) {
                        HOW_OFTEN[0]++;
                        follower.state = 2;
                        return taken;
                    }
                }
                follower.rows = after;
                follower.slot++;
                taken++;
                HOW_OFTEN[1]++;
            }
            return taken;
        }

        private boolean changes(Follower follower, Side side, Rows[] after) {
            int copied = follower.copies[side.table];
            if (copied < 0 || copied >= follower.slot + 1) {
                return true;
            }
            boolean oldCounts = counts(follower.publication, side.table, side.oldRow);
            boolean newCounts = counts(follower.publication, side.table, side.newRow);
            if (newCounts && !oldCounts && after[side.table].containsKey(side.key)) {
                return false;
            }
            if (newCounts) {
                after[side.table].put(side.key, listed(follower.publication, side.table, side.newRow));
            } else if (oldCounts) {
                after[side.table].remove(side.key);
                HOW_OFTEN[2]++;
            }
            return true;
        }

        private long goOn(Follower follower, boolean skips) {
            if (follower.state != 2) {
                return NOT_NOW;
            }
            follower.state = 1;
            if (skips) {
                follower.slot++;
                HOW_OFTEN[5]++;
            }
            return follower.slot;
        }

        private static long own(Rows rows, int key, int number) {
            boolean had = rows.containsKey(key);
            if (number == -1) {
                rows.remove(key);
            } else {
                rows.put(key, List.of(number, number, number));
            }
            return had ? 1 : 0;
        }

        private long isFaithful(Follower follower, int table) {
            boolean holdsLog = follower.state == 1 || follower.state == 2;
            if (!holdsLog || follower.copies[table] < 0) {
                return NOT_NOW;
            }
            int commit = Math.max(follower.slot, follower.copies[table]);
            Rows due = chosen(follower.publication, table, history.get(commit)[table]);
            boolean same = follower.rows[table].equals(due);
            HOW_OFTEN[same ? 6 : 7]++;
            HOW_OFTEN[11] += same && commit > follower.slot ? 1 : 0;
            return same ? 1 : 0;
        }
    }
}
