import java.util.ArrayList;
import java.util.List;
import java.util.Objects;
import java.util.Optional;
import java.util.function.IntFunction;

/**
 * A run of calls on a new object, for one sentence of the document, whose words it bears. After a
 * refused call a second object that had all calls of the run and the refused one is held against a
 * third that had all but the refused one: what they answer from then on must be the same.
 */
final class EdgeRun {
    static final Class<?> OUTSIDE = IndexOutOfBoundsException.class;
    static final Class<?> ARGUMENT = IllegalArgumentException.class;
    static final Class<?> NOT_NOW = IllegalStateException.class;

    private static final int MOST_CALLS = 512;
    private static final int MOST_COMMITS = 50;
    private static final int TABLES = 2;
    private static final int KEYS = 12;
    private static final int COLUMNS = 3;
    private static final int PUBLICATIONS = 3;
    private static final int SUBSCRIBERS = 3;

    private static int wrong = 0;

    interface Call {
        Object on(RowReplicator x);
    }

    private final String sentence;
    private final RowReplicator x = new RowReplicator();
    private final List<Call> taken = new ArrayList<>();
    private int used = 0;

    EdgeRun(String sentence) {
        this.sentence = sentence;
    }

    static void end(String name) {
        System.out.println(wrong == 0 ? name + " hold" : name + ": " + wrong + " are not as due");
        if (wrong != 0) {
            System.exit(1);
        }
    }

    /** Takes the call at both ends of a range, and refuses it outside of them. */
    static void range(IntFunction<EdgeRun> settings, Class<?> refusal, int lowest, int highest,
            IntFunction<Call> calls) {
        int[] outside = {lowest - 1, highest + 1, Integer.MIN_VALUE, Integer.MAX_VALUE};
        for (int argument : outside) {
            settings.apply(argument).refused(refusal, calls.apply(argument));
        }
        for (int argument : new int[] {lowest, lowest + 1, highest - 1, highest}) {
            settings.apply(argument).does(calls.apply(argument));
        }
    }

    // ---- calls with one number in all columns, or without an answer

    static Call put(int table, int key, int number) {
        return x -> x.put(table, key, number, number, number);
    }

    static Call take(int table, int key) {
        return x -> {
            x.take(table, key);
            return "taken";
        };
    }

    // ---- steps of a run

    EdgeRun does(Call call) {
        Object got = answer(x, call);
        count(1);
        if (got instanceof Class) {
            report("throws " + got);
        }
        taken.add(call);
        return this;
    }

    EdgeRun due(Object want, Call call) {
        Object got = answer(x, call);
        count(1);
        if (!Objects.equals(got, want)) {
            report("answered " + got + ", due is " + want);
        }
        taken.add(call);
        return this;
    }

    EdgeRun refused(Class<?> want, Call call) {
        Object got = answer(x, call);
        count(1);
        if (got != want) {
            report("answered " + got + ", due is " + want);
        }
        same("what is seen", call, EdgeRun::whatIsSeen);
        same("what a commit brings", call, EdgeRun::whatACommitBrings);
        same("what rollBack leaves", call, EdgeRun::whatRollBackLeaves);
        same("when subscribers are cut", call, EdgeRun::whenTheyAreCut);
        return this;
    }

    EdgeRun puts(int table, int key, int number) {
        return does(put(table, key, number));
    }

    EdgeRun takes(int table, int key) {
        return does(take(table, key));
    }

    EdgeRun commits(int times) {
        for (int i = 0; i < times; i++) {
            does(RowReplicator::commit);
        }
        return this;
    }

    EdgeRun commitsRow(int table, int key, int number) {
        return puts(table, key, number).commits(1);
    }

    EdgeRun fills(int table, int number) {
        for (int key = 0; key < KEYS; key++) {
            puts(table, key, number);
        }
        return this;
    }

    /** Subscribes and copies both tables. */
    EdgeRun follows(int subscriber, int publication) {
        return does(x -> x.subscribe(subscriber, publication))
            .does(x -> x.copy(subscriber, 0)).does(x -> x.copy(subscriber, 1));
    }

    /** The rows of a table of the publisher, as in "0:1,2,3 11:4,5,6". */
    EdgeRun publisherHas(int table, String want) {
        StringBuilder rows = new StringBuilder();
        for (int key = 0; key < KEYS; key++) {
            addRow(rows, key, x.at(table, key, 0), x.at(table, key, 1), x.at(table, key, 2));
        }
        return sees("table " + table + " of the publisher", rows.toString(), want);
    }

    EdgeRun subscriberHas(int subscriber, int table, String want) {
        StringBuilder rows = new StringBuilder();
        for (int key = 0; key < KEYS; key++) {
            addRow(rows, key, x.seen(subscriber, table, key, 0), x.seen(subscriber, table, key, 1),
                x.seen(subscriber, table, key, 2));
        }
        return sees("table " + table + " of subscriber " + subscriber, rows.toString(), want);
    }

    EdgeRun stateAndLag(int subscriber, int state, int lag) {
        return due(state, x -> x.state(subscriber)).due(lag, x -> x.lag(subscriber));
    }

    EdgeRun copiedAt(int subscriber, int first, int second) {
        return due(first, x -> x.copiedAt(subscriber, 0))
            .due(second, x -> x.copiedAt(subscriber, 1));
    }

    // ---- how a run is judged

    private static void addRow(StringBuilder rows, int key, int first, int second, int third) {
        if (first != -1 || second != -1 || third != -1) {
            rows.append(rows.length() == 0 ? "" : " ").append(key).append(':')
                .append(first).append(',').append(second).append(',').append(third);
        }
    }

    private EdgeRun sees(String what, String got, String want) {
        count(KEYS * COLUMNS);
        if (!got.equals(want)) {
            report(what + " is [" + got + "], due is [" + want + "]");
        }
        return this;
    }

    /** What the call answers, or the class of what it throws. */
    private static Object answer(RowReplicator x, Call call) {
        try {
            return call.on(x);
        } catch (RuntimeException e) {
            return e.getClass();
        }
    }

    private void count(int calls) {
        used += calls;
        if (used > MOST_CALLS) {
            report("the run has more calls than an object is made for");
        }
    }

    private void report(String what) {
        wrong++;
        Optional<String> place = StackWalker.getInstance().walk(frames -> frames
            .filter(frame -> !frame.getClassName().startsWith("EdgeRun"))
            .map(frame -> frame.getFileName() + ":" + frame.getLineNumber()).findFirst());
        System.out.println(place.orElse("?") + ": \"" + sentence + "\": " + what);
    }

    private interface Probe {
        void ask(Answers answers);
    }

    private static final class Answers {
        final RowReplicator x = new RowReplicator();
        final List<Object> all = new ArrayList<>();
        int used = 0;

        Object ask(Call call) {
            Object got = answer(x, call);
            used++;
            all.add(got);
            return got;
        }
    }

    private void same(String what, Call refused, Probe probe) {
        Answers with = new Answers();
        Answers without = new Answers();
        for (Call call : taken) {
            with.ask(call);
            without.ask(call);
        }
        answer(with.x, refused);
        probe.ask(with);
        probe.ask(without);
        if (with.used + 1 > MOST_CALLS) {
            report("looking at it takes more calls than an object is made for");
        }
        if (!with.all.equals(without.all)) {
            report("a refused call has changed something: " + what);
        }
    }

    private static void whatIsSeen(Answers answers) {
        answers.ask(RowReplicator::commits);
        askPublisher(answers);
        for (int i = 0; i < SUBSCRIBERS; i++) {
            int subscriber = i;
            answers.ask(x -> x.state(subscriber));
            answers.ask(x -> x.lag(subscriber));
            for (int j = 0; j < TABLES; j++) {
                int table = j;
                answers.ask(x -> x.copiedAt(subscriber, table));
                answers.ask(x -> x.isFaithful(subscriber, table));
                askRows(answers, subscriber, table);
            }
        }
    }

    /** The open transaction, the log and the slots, as the subscribers get them. */
    private static void whatACommitBrings(Answers answers) {
        answers.ask(x -> x.setLimit(50));
        answers.ask(RowReplicator::commit);
        for (int i = 0; i < SUBSCRIBERS; i++) {
            int subscriber = i;
            answers.ask(x -> x.receive(subscriber, 50));
            answers.ask(x -> x.goOn(subscriber, true));
            answers.ask(x -> x.receive(subscriber, 50));
            answers.ask(x -> x.goOn(subscriber, false));
            answers.ask(x -> x.lag(subscriber));
            for (int j = 0; j < TABLES; j++) {
                int table = j;
                answers.ask(x -> x.isFaithful(subscriber, table));
                askRows(answers, subscriber, table);
            }
        }
    }

    /** The committed rows, and what each publication chooses of rows of all kinds. */
    private static void whatRollBackLeaves(Answers answers) {
        answers.ask(RowReplicator::rollBack);
        askPublisher(answers);
        for (int i = 0; i < TABLES; i++) {
            int table = i;
            for (int j = 0; j < KEYS; j++) {
                int key = j;
                answers.ask(x -> x.put(table, key, key * 9, 99 - key * 9, key * 41 % 100));
            }
            answers.ask(RowReplicator::commit);
        }
        for (int i = 0; i < PUBLICATIONS; i++) {
            int publication = i;
            answers.ask(x -> x.subscribe(0, publication));
            for (int j = 0; j < TABLES; j++) {
                int table = j;
                answers.ask(x -> x.copy(0, table));
                askRows(answers, 0, table);
            }
        }
    }

    private static void whenTheyAreCut(Answers answers) {
        for (int commit = 0; commit <= MOST_COMMITS; commit++) {
            answers.ask(RowReplicator::commit);
            for (int i = 0; i < SUBSCRIBERS; i++) {
                int subscriber = i;
                answers.ask(x -> x.state(subscriber));
            }
        }
        for (int i = 0; i < PUBLICATIONS * TABLES; i++) {
            int publication = i / TABLES;
            int table = i % TABLES;
            answers.ask(x -> x.setColumns(publication, table, 7));
        }
    }

    private static void askPublisher(Answers answers) {
        for (int i = 0; i < TABLES * KEYS * COLUMNS; i++) {
            int table = i / (KEYS * COLUMNS);
            int key = i / COLUMNS % KEYS;
            int column = i % COLUMNS;
            answers.ask(x -> x.at(table, key, column));
        }
    }

    private static void askRows(Answers answers, int subscriber, int table) {
        for (int i = 0; i < KEYS * COLUMNS; i++) {
            int key = i / COLUMNS;
            int column = i % COLUMNS;
            answers.ask(x -> x.seen(subscriber, table, key, column));
        }
    }
}
