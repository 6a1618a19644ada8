import java.util.Arrays;
import java.util.Objects;

/** For each promise of the document: ordinary inputs, the edges that it names, and wrong inputs. */
public final class RowReplicatorPromises {
    private static final Class<?> OUTSIDE = IndexOutOfBoundsException.class;
    private static final Class<?> ARGUMENT = IllegalArgumentException.class;
    private static final Class<?> NOT_NOW = IllegalStateException.class;
    private static final int[] NOT_TABLES = {-1, 2, Integer.MIN_VALUE, Integer.MAX_VALUE};
    private static final int[] NOT_KEYS = {-1, 12, Integer.MIN_VALUE, Integer.MAX_VALUE};
    private static final int[] NOT_ONE_OF_THREE = {-1, 3, Integer.MIN_VALUE, Integer.MAX_VALUE};
    private static final int[] NOT_NUMBERS = {-1, 100, Integer.MIN_VALUE, Integer.MAX_VALUE};

    private static int wrong = 0;

    private interface Call {
        void run();
    }

    private static void due(String what, Object got, Object want) {
        if (!Objects.equals(got, want)) {
            wrong++;
            System.out.println(what + " answered " + got + ", due is " + want);
        }
    }

    private static void dueToThrow(String what, Class<?> want, Call call) {
        Class<?> got = null;
        try {
            call.run();
        } catch (RuntimeException e) {
            got = e.getClass();
        }
        due(what + " throws", got, want);
    }

    public static void main(String[] args) {
        promise1NewObject();
        promise2Put();
        promise3Take();
        promise4Truncate();
        promise5Commit();
        promise6RollBack();
        promise7At();
        promise8Commits();
        promise9SetLimit();
        promise9LimitAtFirst();
        promise10SetCondition();
        promise10Relations();
        promise11SetColumns();
        promise11Projection();
        promise12Subscribe();
        promise13Drop();
        promise14Copy();
        promise15Receive();
        promise15EdgesOfACondition();
        promise15ChangesThatCount();
        promise15Truncate();
        promise15Conflicts();
        promise16GoOn();
        promise17Own();
        promise18State();
        promise19Lag();
        promise20CopiedAt();
        promise21Seen();
        promise22IsFaithful();
        promise22CopiedAheadOfTheSlot();
        System.out.println(wrong == 0 ? "all promises hold" : wrong + " answers are not as due");
        if (wrong != 0) {
            System.exit(1);
        }
    }

    // ---- what several tests share

    /** One with the same number in all columns of a new row, committed. */
    private static void commitRow(RowReplicator x, int table, int key, int number) {
        x.put(table, key, number, number, number);
        x.commit();
    }

    private static void commitTimes(RowReplicator x, int times) {
        for (int i = 0; i < times; i++) {
            x.commit();
        }
    }

    /** Subscriber 0 follows publication 0 with table 0 copied. */
    private static RowReplicator followed() {
        RowReplicator x = new RowReplicator();
        x.subscribe(0, 0);
        x.copy(0, 0);
        return x;
    }

    /** Subscriber 0 of followed(), stopped at commit 1 by a row of its own with key 5. */
    private static RowReplicator stopped() {
        RowReplicator x = followed();
        x.own(0, 0, 5, 77);
        commitRow(x, 0, 5, 1);
        x.receive(0, 1);
        return x;
    }

    /** Subscriber 0 of followed(), cut at commit 1. */
    private static RowReplicator cut() {
        RowReplicator x = followed();
        x.setLimit(0);
        x.commit();
        return x;
    }

    private static String rowAt(RowReplicator x, int table, int key) {
        return Arrays.toString(new int[] {
            x.at(table, key, 0), x.at(table, key, 1), x.at(table, key, 2)});
    }

    private static String rowSeen(RowReplicator x, int subscriber, int table, int key) {
        return Arrays.toString(new int[] {x.seen(subscriber, table, key, 0),
            x.seen(subscriber, table, key, 1), x.seen(subscriber, table, key, 2)});
    }

    /** The keys that a table of a subscriber has, as a text. */
    private static String keysSeen(RowReplicator x, int subscriber, int table) {
        StringBuilder keys = new StringBuilder();
        for (int key = 0; key < 12; key++) {
            if (x.seen(subscriber, table, key, 0) != -1) {
                keys.append(key).append(' ');
            }
        }
        return keys.toString().trim();
    }

    private static int rowsOfPublisher(RowReplicator x, int table) {
        int rows = 0;
        for (int key = 0; key < 12; key++) {
            if (x.at(table, key, 0) != -1) {
                rows++;
            }
        }
        return rows;
    }

    // ---- the promises

    private static void promise1NewObject() {
        RowReplicator x = new RowReplicator();
        due("rows of table 0", rowsOfPublisher(x, 0), 0);
        due("rows of table 1", rowsOfPublisher(x, 1), 0);
        due("commits", x.commits(), 0);
        due("open changes", x.rollBack(), 0);
        for (int subscriber = 0; subscriber < 3; subscriber++) {
            due("state", x.state(subscriber), 0);
            due("lag", x.lag(subscriber), 0);
            for (int table = 0; table < 2; table++) {
                due("copiedAt", x.copiedAt(subscriber, table), -1);
                due("keys seen", keysSeen(x, subscriber, table), "");
            }
        }
        x.put(0, 3, 1, 2, 3);
        due("row of another object", new RowReplicator().at(0, 3, 0), -1);
    }

    private static void promise2Put() {
        RowReplicator x = new RowReplicator();
        due("put of a new row", x.put(0, 0, 0, 50, 99), true);
        due("row at once", rowAt(x, 0, 0), "[0, 50, 99]");
        due("same key, other table", rowAt(x, 1, 0), "[-1, -1, -1]");
        due("put in place of a row", x.put(0, 0, 99, 0, 1), false);
        due("row in place", rowAt(x, 0, 0), "[99, 0, 1]");
        due("put at the last key", x.put(1, 11, 7, 8, 9), true);
        due("row at the last key", rowAt(x, 1, 11), "[7, 8, 9]");
        due("same key, other table", rowAt(x, 0, 11), "[-1, -1, -1]");
        x.take(0, 0);
        due("put of a row taken away", x.put(0, 0, 1, 1, 1), true);
        due("changes", x.rollBack(), 5);
        for (int bad : NOT_TABLES) {
            dueToThrow("put, table " + bad, OUTSIDE, () -> x.put(bad, 0, 100, 1, 1));
        }
        for (int bad : NOT_KEYS) {
            dueToThrow("put, key " + bad, OUTSIDE, () -> x.put(0, bad, 1, 1, -1));
        }
        for (int bad : NOT_NUMBERS) {
            dueToThrow("put, first " + bad, ARGUMENT, () -> x.put(0, 0, bad, 1, 1));
            dueToThrow("put, second " + bad, ARGUMENT, () -> x.put(0, 0, 1, bad, 1));
            dueToThrow("put, third " + bad, ARGUMENT, () -> x.put(0, 0, 1, 1, bad));
        }
        due("changes by wrong calls", x.rollBack(), 0);
        fillTransaction(x);
        dueToThrow("put, 13th change", NOT_NOW, () -> x.put(0, 0, 2, 2, 2));
        dueToThrow("put, 13th change, key", OUTSIDE, () -> x.put(0, 12, 2, 2, 2));
        dueToThrow("put, 13th change, number", ARGUMENT, () -> x.put(0, 0, 2, 2, 100));
        due("row after the 13th", rowAt(x, 0, 0), "[1, 1, 1]");
        x.commit();
        due("put in the next transaction", x.put(0, 0, 2, 2, 2), false);
    }

    private static void fillTransaction(RowReplicator x) {
        for (int key = 0; key < 12; key++) {
            x.put(0, key, 1, 1, 1);
        }
    }

    private static void promise3Take() {
        RowReplicator x = new RowReplicator();
        dueToThrow("take of no row", NOT_NOW, () -> x.take(0, 0));
        due("changes by that", x.rollBack(), 0);
        commitRow(x, 1, 11, 4);
        dueToThrow("take from the other table", NOT_NOW, () -> x.take(0, 11));
        x.take(1, 11);
        due("row taken away", rowAt(x, 1, 11), "[-1, -1, -1]");
        dueToThrow("take anew", NOT_NOW, () -> x.take(1, 11));
        due("changes", x.rollBack(), 1);
        due("row back again", rowAt(x, 1, 11), "[4, 4, 4]");
        for (int bad : NOT_TABLES) {
            dueToThrow("take, table " + bad, OUTSIDE, () -> x.take(bad, 11));
        }
        for (int bad : NOT_KEYS) {
            dueToThrow("take, key " + bad, OUTSIDE, () -> x.take(1, bad));
        }
        fillTransaction(x);
        dueToThrow("take, 13th change", NOT_NOW, () -> x.take(0, 0));
        dueToThrow("take, 13th change, key", OUTSIDE, () -> x.take(0, 12));
        due("row after the 13th", rowAt(x, 0, 0), "[1, 1, 1]");
    }

    private static void promise4Truncate() {
        RowReplicator x = new RowReplicator();
        due("truncate of an empty table", x.truncate(0), 0);
        due("which is a change", x.rollBack(), 1);
        fillTransaction(x);
        x.commit();
        x.put(1, 3, 1, 1, 1);
        x.put(1, 11, 1, 1, 1);
        due("truncate of a full table", x.truncate(0), 12);
        due("rows", rowsOfPublisher(x, 0), 0);
        due("rows of the other", rowsOfPublisher(x, 1), 2);
        due("truncate of the other", x.truncate(1), 2);
        due("each is one change", x.rollBack(), 4);
        due("rows back again", rowsOfPublisher(x, 0), 12);
        for (int bad : NOT_TABLES) {
            dueToThrow("truncate, table " + bad, OUTSIDE, () -> x.truncate(bad));
        }
        fillTransaction(x);
        dueToThrow("truncate, 13th change", NOT_NOW, () -> x.truncate(0));
        dueToThrow("truncate, 13th change, table", OUTSIDE, () -> x.truncate(2));
        due("rows after the 13th", rowsOfPublisher(x, 0), 12);
    }

    private static void promise5Commit() {
        RowReplicator x = new RowReplicator();
        due("commit of an empty transaction", x.commit(), 1);
        x.put(0, 0, 5, 5, 5);
        due("commit", x.commit(), 2);
        due("open changes after it", x.rollBack(), 0);
        due("row after it", rowAt(x, 0, 0), "[5, 5, 5]");
        x.setLimit(50);
        x.subscribe(0, 0);
        for (int number = 3; number <= 50; number++) {
            due("commit", x.commit(), number);
        }
        x.put(0, 1, 6, 6, 6);
        dueToThrow("commit 51", NOT_NOW, () -> x.commit());
        due("commits", x.commits(), 50);
        due("lag", x.lag(0), 48);
        due("row of the open transaction", rowAt(x, 0, 1), "[6, 6, 6]");
        due("its changes", x.rollBack(), 1);
        fillTransaction(x);
        dueToThrow("change 13 behind commit 50", NOT_NOW, () -> x.put(0, 1, 6, 6, 6));
        due("changes behind commit 50", x.rollBack(), 12);
        due("row after that", rowAt(x, 0, 0), "[5, 5, 5]");
    }

    private static void promise6RollBack() {
        RowReplicator x = new RowReplicator();
        due("rollBack without a transaction", x.rollBack(), 0);
        commitRow(x, 0, 1, 10);
        commitRow(x, 1, 2, 20);
        x.put(0, 1, 30, 30, 30);
        x.put(0, 5, 31, 31, 31);
        x.truncate(1);
        due("rollBack", x.rollBack(), 3);
        due("row put anew", rowAt(x, 0, 1), "[10, 10, 10]");
        due("new row", rowAt(x, 0, 5), "[-1, -1, -1]");
        due("row taken away", rowAt(x, 1, 2), "[20, 20, 20]");
        due("commits", x.commits(), 2);
        due("rollBack anew", x.rollBack(), 0);
        RowReplicator y = followed();
        y.put(0, 1, 1, 1, 1);
        y.rollBack();
        commitRow(y, 0, 2, 2);
        y.receive(0, 1);
        due("changes rolled back are in no commit", keysSeen(y, 0, 0), "2");
    }

    private static void promise7At() {
        RowReplicator x = new RowReplicator();
        x.put(1, 11, 97, 98, 99);
        due("column 0", x.at(1, 11, 0), 97);
        due("column 1", x.at(1, 11, 1), 98);
        due("column 2", x.at(1, 11, 2), 99);
        due("no row", x.at(1, 10, 0), -1);
        due("no row in the other table", x.at(0, 11, 2), -1);
        for (int bad : NOT_TABLES) {
            dueToThrow("at, table " + bad, OUTSIDE, () -> x.at(bad, 0, 0));
        }
        for (int bad : NOT_KEYS) {
            dueToThrow("at, key " + bad, OUTSIDE, () -> x.at(1, bad, 0));
        }
        for (int bad : NOT_ONE_OF_THREE) {
            dueToThrow("at, column " + bad, OUTSIDE, () -> x.at(1, 11, bad));
            dueToThrow("at, no row, column " + bad, OUTSIDE, () -> x.at(0, 0, bad));
        }
    }

    private static void promise8Commits() {
        RowReplicator x = new RowReplicator();
        due("commits at first", x.commits(), 0);
        x.put(0, 0, 1, 1, 1);
        due("commits with an open transaction", x.commits(), 0);
        x.commit();
        due("commits", x.commits(), 1);
        x.rollBack();
        due("commits after a rollBack", x.commits(), 1);
        commitTimes(x, 49);
        due("commits at most", x.commits(), 50);
    }

    private static void promise9SetLimit() {
        RowReplicator x = new RowReplicator();
        x.subscribe(0, 0);
        commitTimes(x, 2);
        x.subscribe(1, 0);
        x.commit();
        x.subscribe(2, 1);
        due("limits 3, 1 and 0 fit the lags 3, 1 and 0", x.setLimit(3), 0);
        due("one too small", x.setLimit(2), 1);
        due("state of the cut one", x.state(0), 3);
        due("state of another", x.state(1), 1);
        due("the cut one is not cut anew", x.setLimit(1), 0);
        due("limit 0", x.setLimit(0), 1);
        due("state without lag", x.state(2), 1);
        x.commit();
        due("state after a commit", x.state(2), 3);
        due("limit 50", x.setLimit(50), 0);
        due("a cut one stays cut", x.state(0), 3);
        for (int bad : new int[] {-1, 51, Integer.MIN_VALUE, Integer.MAX_VALUE}) {
            dueToThrow("setLimit " + bad, ARGUMENT, () -> x.setLimit(bad));
        }
        RowReplicator y = stopped();
        due("a stopped one is cut", y.setLimit(0), 1);
        due("state of a stopped one", y.state(0), 3);
        RowReplicator z = new RowReplicator();
        z.setLimit(50);
        z.subscribe(0, 0);
        z.subscribe(1, 0);
        commitTimes(z, 50);
        due("lag of 50", z.lag(0), 50);
        due("two are cut", z.setLimit(49), 2);
    }

    private static void promise9LimitAtFirst() {
        RowReplicator x = new RowReplicator();
        x.subscribe(0, 0);
        commitTimes(x, 20);
        due("state with a lag of 20", x.state(0), 1);
        dueToThrow("a wrong limit", ARGUMENT, () -> x.setLimit(51));
        x.commit();
        due("state with a lag of 21", x.state(0), 3);
    }

    private static void promise10SetCondition() {
        RowReplicator x = new RowReplicator();
        due("setCondition without subscribers", x.setCondition(2, 1, 2, 2, 99), 0);
        x.subscribe(0, 0);
        x.subscribe(1, 0);
        x.subscribe(2, 1);
        due("setCondition, none copied", x.setCondition(0, 0, 0, 0, 0), 0);
        x.copy(0, 0);
        x.copy(1, 0);
        x.copy(1, 1);
        x.copy(2, 0);
        x.own(0, 0, 4, 4);
        due("setCondition to what it was", x.setCondition(0, 0, 0, 0, 0), 2);
        due("the table is not copied", x.copiedAt(0, 0), -1);
        due("nor for the other", x.copiedAt(1, 0), -1);
        due("the other table is", x.copiedAt(1, 1), 0);
        due("that of another publication is", x.copiedAt(2, 0), 0);
        due("rows stay", keysSeen(x, 0, 0), "4");
        due("state stays", x.state(0), 1);
        due("setCondition anew", x.setCondition(0, 0, 0, 0, 0), 0);
        x.setLimit(0);
        x.commit();
        due("a cut one counts", x.setCondition(0, 1, 0, 0, 0), 1);
        due("its table is not copied", x.copiedAt(1, 1), -1);
        x.drop(2);
        due("a dropped one does not", x.setCondition(1, 0, 0, 0, 0), 0);
        wrongConditions();
    }

    private static void wrongConditions() {
        RowReplicator x = followed();
        for (int bad : NOT_ONE_OF_THREE) {
            dueToThrow("publication " + bad, OUTSIDE, () -> x.setCondition(bad, 0, 0, 3, 0));
            dueToThrow("column " + bad, OUTSIDE, () -> x.setCondition(0, 0, bad, 0, 100));
            dueToThrow("relation " + bad, ARGUMENT, () -> x.setCondition(0, 0, 0, bad, 0));
        }
        for (int bad : NOT_TABLES) {
            dueToThrow("table " + bad, OUTSIDE, () -> x.setCondition(0, bad, 0, -1, 0));
        }
        for (int bad : NOT_NUMBERS) {
            dueToThrow("number " + bad, ARGUMENT, () -> x.setCondition(0, 0, 0, 0, bad));
            dueToThrow("number " + bad, ARGUMENT, () -> x.setCondition(0, 0, 0, 1, bad));
        }
        due("the table is copied still", x.copiedAt(0, 0), 0);
        commitRow(x, 0, 0, 0);
        due("the condition is what it was", x.copy(0, 0), 1);
    }

    private static void promise10Relations() {
        RowReplicator x = new RowReplicator();
        x.put(1, 0, 0, 99, 49);
        x.put(1, 1, 50, 49, 0);
        x.put(1, 2, 99, 50, 99);
        x.put(1, 3, 49, 0, 50);
        x.commit();
        x.subscribe(1, 2);
        String[][] keys = {{"0 1 2 3", "0 3", "1 2"}, {"0 1 2 3", "1 3", "0 2"}, {"0 1 2 3", "0 1", "2 3"}};
        for (int column = 0; column < 3; column++) {
            for (int relation = 0; relation < 3; relation++) {
                x.setCondition(2, 1, column, relation, 50);
                x.copy(1, 1);
                due("column " + column + " relation " + relation, keysSeen(x, 1, 1), keys[column][relation]);
            }
        }
        x.setCondition(2, 1, 0, 1, 0);
        due("less than 0", x.copy(1, 1), 0);
        x.setCondition(2, 1, 0, 2, 0);
        due("not less than 0", x.copy(1, 1), 4);
        x.setCondition(2, 1, 0, 1, 99);
        due("less than 99", x.copy(1, 1), 3);
        x.setCondition(2, 1, 0, 2, 99);
        due("not less than 99", x.copy(1, 1), 1);
        due("the other table has no condition", x.copy(1, 0), 0);
    }

    private static void promise11SetColumns() {
        RowReplicator x = new RowReplicator();
        due("setColumns without subscribers", x.setColumns(2, 1, 7), 0);
        x.subscribe(0, 0);
        x.subscribe(1, 0);
        x.subscribe(2, 1);
        x.copy(0, 1);
        x.copy(0, 0);
        x.copy(1, 1);
        x.copy(2, 1);
        x.own(1, 1, 4, 4);
        due("setColumns to what it was", x.setColumns(0, 1, 7), 2);
        due("the table is not copied", x.copiedAt(1, 1), -1);
        due("the other table is", x.copiedAt(0, 0), 0);
        due("that of another publication is", x.copiedAt(2, 1), 0);
        due("rows stay", keysSeen(x, 1, 1), "4");
        x.setLimit(0);
        x.commit();
        due("a cut one counts", x.setColumns(1, 1, 7), 1);
        for (int bad : NOT_ONE_OF_THREE) {
            dueToThrow("publication " + bad, OUTSIDE, () -> x.setColumns(bad, 0, 8));
        }
        for (int bad : NOT_TABLES) {
            dueToThrow("table " + bad, OUTSIDE, () -> x.setColumns(0, bad, 8));
        }
        for (int bad : new int[] {-1, 8, Integer.MIN_VALUE, Integer.MAX_VALUE}) {
            dueToThrow("columns " + bad, ARGUMENT, () -> x.setColumns(0, 0, bad));
        }
        due("the table is copied still", x.copiedAt(0, 0), 0);
    }

    private static void promise11Projection() {
        RowReplicator x = new RowReplicator();
        x.put(0, 0, 97, 98, 99);
        x.commit();
        x.subscribe(2, 1);
        String[] rows = {"[0, 0, 0]", "[97, 0, 0]", "[0, 98, 0]", "[97, 98, 0]",
            "[0, 0, 99]", "[97, 0, 99]", "[0, 98, 99]", "[97, 98, 99]"};
        for (int columns = 0; columns < 8; columns++) {
            x.setColumns(1, 0, columns);
            due("copy", x.copy(2, 0), 1);
            due("columns " + columns, rowSeen(x, 2, 0, 0), rows[columns]);
        }
        x.setCondition(1, 0, 2, 2, 50);
        x.setColumns(1, 0, 1);
        due("the condition looks at a column out of the list", x.copy(2, 0), 1);
        x.put(0, 0, 11, 12, 49);
        x.put(0, 1, 21, 22, 50);
        x.commit();
        x.receive(2, 1);
        due("so it does for the log", keysSeen(x, 2, 0), "1");
        due("a row of the log", rowSeen(x, 2, 0, 1), "[21, 0, 0]");
    }

    private static void promise12Subscribe() {
        RowReplicator x = new RowReplicator();
        commitRow(x, 0, 0, 1);
        x.own(2, 1, 3, 33);
        x.put(0, 1, 1, 1, 1);
        due("subscribe in an open transaction", x.subscribe(2, 2), 0);
        due("state", x.state(2), 1);
        due("slot at the last commit", x.lag(2), 0);
        due("rows stay", keysSeen(x, 2, 1), "3");
        due("no table copied", x.copiedAt(2, 0), -1);
        due("of the others none subscribes", x.state(0) + x.state(1), 0);
        x.commit();
        x.copy(2, 0);
        x.copy(2, 1);
        x.commit();
        due("lag", x.lag(2), 2);
        x.setCondition(1, 0, 0, 1, 0);
        due("subscribe anew", x.subscribe(2, 1), 1);
        due("slot", x.lag(2), 0);
        due("table 0 is not copied", x.copiedAt(2, 0), -1);
        due("table 1 is not copied", x.copiedAt(2, 1), -1);
        due("rows of table 0 stay", keysSeen(x, 2, 0), "0 1");
        due("it has the new publication", x.copy(2, 0), 0);
        RowReplicator y = stopped();
        due("subscribe when stopped", y.subscribe(0, 0), 2);
        due("state", y.state(0), 1);
        due("lag", y.lag(0), 0);
        RowReplicator z = cut();
        due("subscribe when cut", z.subscribe(0, 0), 3);
        due("state", z.state(0), 1);
        due("not copied", z.copiedAt(0, 0), -1);
        for (int bad : NOT_ONE_OF_THREE) {
            dueToThrow("subscriber " + bad, OUTSIDE, () -> z.subscribe(bad, 0));
            dueToThrow("publication " + bad, OUTSIDE, () -> z.subscribe(1, bad));
        }
        due("state after wrong calls", z.state(1), 0);
    }

    private static void promise13Drop() {
        RowReplicator x = new RowReplicator();
        due("drop without a publication", x.drop(0), 0);
        commitRow(x, 0, 1, 5);
        x.subscribe(0, 0);
        x.copy(0, 0);
        x.copy(0, 1);
        x.commit();
        due("drop", x.drop(0), 1);
        due("state", x.state(0), 0);
        due("lag", x.lag(0), 0);
        due("table 0 is not copied", x.copiedAt(0, 0), -1);
        due("table 1 is not copied", x.copiedAt(0, 1), -1);
        due("rows stay", rowSeen(x, 0, 0, 1), "[5, 5, 5]");
        dueToThrow("receive after drop", NOT_NOW, () -> x.receive(0, 1));
        dueToThrow("copy after drop", NOT_NOW, () -> x.copy(0, 0));
        due("no cut after drop", x.setLimit(0), 0);
        due("drop when stopped", stopped().drop(0), 2);
        RowReplicator y = cut();
        due("drop when cut", y.drop(0), 3);
        due("state", y.state(0), 0);
        due("subscribe after drop", y.subscribe(0, 0), 0);
        for (int bad : NOT_ONE_OF_THREE) {
            dueToThrow("drop " + bad, OUTSIDE, () -> y.drop(bad));
        }
    }

    private static void promise14Copy() {
        RowReplicator x = new RowReplicator();
        x.put(0, 0, 1, 2, 3);
        x.put(0, 11, 50, 2, 3);
        x.put(1, 5, 1, 2, 3);
        x.commit();
        x.setCondition(0, 0, 0, 2, 50);
        x.setColumns(0, 0, 5);
        x.subscribe(0, 0);
        x.own(0, 0, 0, 9);
        x.own(0, 0, 7, 9);
        x.own(0, 1, 7, 9);
        due("copy", x.copy(0, 0), 1);
        due("rows that were there are gone", keysSeen(x, 0, 0), "11");
        due("columns in the list", rowSeen(x, 0, 0, 11), "[50, 0, 3]");
        due("the other table stays", keysSeen(x, 0, 1), "7");
        due("other subscribers get nothing", keysSeen(x, 1, 0), "");
        due("copiedAt", x.copiedAt(0, 0), 1);
        due("the slot does not move", x.lag(0), 0);
        x.put(1, 6, 1, 1, 1);
        dueToThrow("copy, open transaction", NOT_NOW, () -> x.copy(0, 1));
        x.rollBack();
        due("copy after rollBack", x.copy(0, 1), 1);
        due("no row that was rolled back", keysSeen(x, 0, 1), "5");
        x.put(1, 6, 1, 1, 1);
        x.commit();
        due("copy with a lag", x.copy(0, 1), 2);
        due("lag stays", x.lag(0), 1);
        due("copied as of the last commit", x.copiedAt(0, 1), 2);
        dueToThrow("copy without a publication", NOT_NOW, () -> x.copy(1, 0));
        dueToThrow("copy when stopped", NOT_NOW, () -> stopped().copy(0, 0));
        dueToThrow("copy when cut", NOT_NOW, () -> cut().copy(0, 0));
        for (int bad : NOT_ONE_OF_THREE) {
            dueToThrow("subscriber " + bad, OUTSIDE, () -> x.copy(bad, 0));
        }
        for (int bad : NOT_TABLES) {
            dueToThrow("table " + bad, OUTSIDE, () -> x.copy(0, bad));
            dueToThrow("table " + bad + ", state 0", OUTSIDE, () -> x.copy(1, bad));
        }
    }

    private static void promise15Receive() {
        RowReplicator x = followed();
        due("receive without commits", x.receive(0, 50), 0);
        commitRow(x, 0, 0, 1);
        commitRow(x, 0, 1, 1);
        x.commit();
        commitRow(x, 0, 2, 1);
        x.put(0, 3, 1, 1, 1);
        due("receive one", x.receive(0, 1), 1);
        due("rows", keysSeen(x, 0, 0), "0");
        due("lag", x.lag(0), 3);
        due("receive two", x.receive(0, 2), 2);
        due("rows", keysSeen(x, 0, 0), "0 1");
        due("receive all", x.receive(0, 50), 1);
        due("rows, but for the open transaction", keysSeen(x, 0, 0), "0 1 2");
        due("other subscribers get nothing", keysSeen(x, 1, 0), "");
        dueToThrow("receive without a publication", NOT_NOW, () -> x.receive(1, 1));
        dueToThrow("receive when stopped", NOT_NOW, () -> stopped().receive(0, 1));
        dueToThrow("receive when cut", NOT_NOW, () -> cut().receive(0, 1));
        for (int bad : NOT_ONE_OF_THREE) {
            dueToThrow("subscriber " + bad, OUTSIDE, () -> x.receive(bad, 0));
        }
        for (int bad : new int[] {0, -1, 51, Integer.MIN_VALUE, Integer.MAX_VALUE}) {
            dueToThrow("most " + bad, ARGUMENT, () -> x.receive(0, bad));
            dueToThrow("most " + bad + ", state 0", ARGUMENT, () -> x.receive(1, bad));
        }
        RowReplicator y = followed();
        y.setLimit(50);
        commitTimes(y, 50);
        due("receive 50", y.receive(0, 50), 50);
    }

    private static void promise15EdgesOfACondition() {
        RowReplicator x = new RowReplicator();
        x.setCondition(0, 0, 1, 1, 50);
        for (int key = 0; key < 5; key++) {
            x.put(0, key, 1, key < 3 ? 10 : 90, 1);
        }
        x.commit();
        x.subscribe(0, 0);
        x.copy(0, 0);
        x.put(0, 0, 2, 49, 2);
        x.put(0, 1, 2, 50, 2);
        x.take(0, 2);
        x.put(0, 3, 2, 20, 2);
        x.put(0, 4, 2, 99, 2);
        x.commit();
        x.own(0, 0, 0, -1);
        x.own(0, 0, 4, 44);
        due("receive", x.receive(0, 1), 1);
        due("both sides: put, though the row was gone", rowSeen(x, 0, 0, 0), "[2, 49, 2]");
        due("the old side alone: taken away", x.seen(0, 0, 1, 0), -1);
        due("no new row: taken away", x.seen(0, 0, 2, 0), -1);
        due("the new side alone: put", rowSeen(x, 0, 0, 3), "[2, 20, 2]");
        due("no side: nothing is done", rowSeen(x, 0, 0, 4), "[44, 44, 44]");
        x.own(0, 0, 0, -1);
        x.take(0, 0);
        x.take(0, 4);
        x.commit();
        due("taking away a row that is not there", x.receive(0, 1), 1);
        due("a row that did not count stays", x.seen(0, 0, 4, 0), 44);
    }

    private static void promise15Truncate() {
        RowReplicator x = new RowReplicator();
        x.setCondition(0, 0, 1, 1, 50);
        fillTransaction(x);
        x.commit();
        x.put(0, 4, 1, 90, 1);
        x.put(1, 0, 1, 1, 1);
        x.put(1, 11, 1, 1, 1);
        x.commit();
        x.subscribe(0, 0);
        x.copy(0, 0);
        x.copy(0, 1);
        x.take(0, 9);
        x.commit();
        x.own(0, 0, 4, 44);
        x.truncate(0);
        x.put(0, 3, 3, 30, 3);
        x.commit();
        x.receive(0, 1);
        x.own(0, 0, 9, 99);
        due("receive a truncate", x.receive(0, 1), 1);
        due("it takes the rows that count, and no others", keysSeen(x, 0, 0), "3 4 9");
        due("row put after it", rowSeen(x, 0, 0, 3), "[3, 30, 3]");
        due("the other table stays", keysSeen(x, 0, 1), "0 11");
        x.truncate(1);
        x.commit();
        due("receive a truncate of the other table", x.receive(0, 1), 1);
        due("its rows are gone", keysSeen(x, 0, 1), "");
        due("the first table stays", keysSeen(x, 0, 0), "3 4 9");
    }

    private static void promise15ChangesThatCount() {
        RowReplicator x = new RowReplicator();
        x.subscribe(0, 0);
        x.copy(0, 0);
        commitRow(x, 0, 0, 1);
        x.put(1, 0, 1, 1, 1);
        x.put(0, 1, 1, 1, 1);
        x.commit();
        x.copy(0, 1);
        commitRow(x, 1, 1, 1);
        due("receive", x.receive(0, 2), 2);
        due("changes of a table copied", keysSeen(x, 0, 0), "0 1");
        due("changes up to the copy do not count, nor lead to a conflict", keysSeen(x, 0, 1), "0");
        due("receive the next", x.receive(0, 1), 1);
        due("the first commit after the copy counts", keysSeen(x, 0, 1), "0 1");
        x.setColumns(0, 0, 7);
        commitRow(x, 0, 5, 1);
        due("receive without the table", x.receive(0, 1), 1);
        due("changes of a table not copied", keysSeen(x, 0, 0), "0 1");
    }

    private static void promise15Conflicts() {
        RowReplicator x = followed();
        x.own(0, 0, 5, 77);
        commitRow(x, 0, 0, 1);
        x.put(0, 1, 1, 1, 1);
        x.put(0, 5, 1, 1, 1);
        x.commit();
        x.commit();
        due("receive up to a conflict", x.receive(0, 9), 1);
        due("state", x.state(0), 2);
        due("lag", x.lag(0), 2);
        due("nothing of the commit is applied", keysSeen(x, 0, 0), "0 5");
        due("the row of its own", x.seen(0, 0, 5, 0), 77);
        RowReplicator y = followed();
        commitRow(y, 0, 3, 1);
        y.receive(0, 1);
        y.take(0, 3);
        y.put(0, 3, 2, 2, 2);
        y.put(0, 4, 2, 2, 2);
        y.take(0, 4);
        y.put(0, 4, 3, 3, 3);
        y.commit();
        due("no conflict: a change ahead took the row away", y.receive(0, 1), 1);
        due("rows", rowSeen(y, 0, 0, 3) + rowSeen(y, 0, 0, 4), "[2, 2, 2][3, 3, 3]");
        y.truncate(0);
        y.put(0, 3, 4, 4, 4);
        y.commit();
        due("no conflict after a truncate ahead", y.receive(0, 1), 1);
        due("row", rowSeen(y, 0, 0, 3), "[4, 4, 4]");
        y.own(0, 0, 8, 8);
        y.truncate(0);
        y.put(0, 8, 1, 1, 1);
        y.commit();
        due("conflict: the truncate leaves its own row", y.receive(0, 1), 0);
        due("nothing is applied", keysSeen(y, 0, 0), "3 8");
        RowReplicator z = followed();
        z.own(0, 1, 5, 5);
        commitRow(z, 0, 5, 1);
        due("no conflict with a row of the other table", z.receive(0, 1), 1);
    }

    private static void promise16GoOn() {
        RowReplicator x = stopped();
        x.commit();
        due("goOn without skipping", x.goOn(0, false), 0);
        due("state", x.state(0), 1);
        due("lag", x.lag(0), 2);
        due("the conflict is there still", x.receive(0, 1), 0);
        x.own(0, 0, 5, -1);
        x.goOn(0, false);
        due("the commit is tried again", x.receive(0, 1), 1);
        due("row", rowSeen(x, 0, 0, 5), "[1, 1, 1]");
        RowReplicator y = stopped();
        y.commit();
        due("goOn with skipping", y.goOn(0, true), 1);
        due("state", y.state(0), 1);
        due("lag", y.lag(0), 1);
        due("nothing is applied", rowSeen(y, 0, 0, 5), "[77, 77, 77]");
        due("the next commit", y.receive(0, 9), 1);
        dueToThrow("goOn in state 1", NOT_NOW, () -> y.goOn(0, true));
        due("lag after that", y.lag(0), 0);
        dueToThrow("goOn in state 0", NOT_NOW, () -> y.goOn(1, false));
        dueToThrow("goOn when cut", NOT_NOW, () -> cut().goOn(0, true));
        for (int bad : NOT_ONE_OF_THREE) {
            dueToThrow("goOn " + bad, OUTSIDE, () -> y.goOn(bad, true));
        }
    }

    private static void promise17Own() {
        RowReplicator x = new RowReplicator();
        due("own, new row", x.own(0, 0, 0, 99), false);
        due("row", rowSeen(x, 0, 0, 0), "[99, 99, 99]");
        due("own, row there", x.own(0, 0, 0, 0), true);
        due("row", rowSeen(x, 0, 0, 0), "[0, 0, 0]");
        due("not in the other table", x.seen(0, 1, 0, 0), -1);
        due("not at another subscriber", x.seen(1, 0, 0, 0), -1);
        due("not at the publisher", x.at(0, 0, 0), -1);
        due("own, taken away", x.own(0, 0, 0, -1), true);
        due("row gone", x.seen(0, 0, 0, 0), -1);
        due("own, nothing to take away", x.own(0, 0, 0, -1), false);
        due("last key", x.own(2, 1, 11, 5), false);
        due("row", rowSeen(x, 2, 1, 11), "[5, 5, 5]");
        due("own when cut", cut().own(0, 0, 0, 1), false);
        due("own when stopped", stopped().own(0, 0, 5, 1), true);
        for (int bad : NOT_ONE_OF_THREE) {
            dueToThrow("subscriber " + bad, OUTSIDE, () -> x.own(bad, 0, 0, 100));
        }
        for (int bad : NOT_TABLES) {
            dueToThrow("table " + bad, OUTSIDE, () -> x.own(0, bad, 0, 100));
        }
        for (int bad : NOT_KEYS) {
            dueToThrow("key " + bad, OUTSIDE, () -> x.own(0, 0, bad, -2));
        }
        for (int bad : new int[] {-2, 100, Integer.MIN_VALUE, Integer.MAX_VALUE}) {
            dueToThrow("number " + bad, ARGUMENT, () -> x.own(2, 1, 11, bad));
        }
        due("row after wrong calls", rowSeen(x, 2, 1, 11), "[5, 5, 5]");
    }

    private static void promise18State() {
        RowReplicator x = new RowReplicator();
        due("state 0", x.state(2), 0);
        due("state 1", followed().state(0), 1);
        due("state 2", stopped().state(0), 2);
        due("state 3", cut().state(0), 3);
        for (int bad : NOT_ONE_OF_THREE) {
            dueToThrow("state " + bad, OUTSIDE, () -> x.state(bad));
        }
    }

    private static void promise19Lag() {
        RowReplicator x = followed();
        x.put(0, 0, 1, 1, 1);
        due("an open transaction is not behind", x.lag(0), 0);
        x.commit();
        x.commit();
        due("lag", x.lag(0), 2);
        due("lag in state 0", x.lag(1), 0);
        x.receive(0, 1);
        due("lag after receive", x.lag(0), 1);
        due("lag in state 2", stopped().lag(0), 1);
        due("lag in state 3", cut().lag(0), 0);
        RowReplicator y = stopped();
        y.setLimit(2);
        y.commit();
        due("lag of a stopped one", y.lag(0), 2);
        y.commit();
        due("a stopped one is cut by a commit", y.state(0), 3);
        for (int bad : NOT_ONE_OF_THREE) {
            dueToThrow("lag " + bad, OUTSIDE, () -> x.lag(bad));
        }
    }

    private static void promise20CopiedAt() {
        RowReplicator x = followed();
        due("copied ahead of the first commit", x.copiedAt(0, 0), 0);
        due("the other table", x.copiedAt(0, 1), -1);
        commitTimes(x, 2);
        due("it stays", x.copiedAt(0, 0), 0);
        x.copy(0, 1);
        due("as of the last commit", x.copiedAt(0, 1), 2);
        x.receive(0, 9);
        due("it does not move with the slot", x.copiedAt(0, 0), 0);
        x.copy(0, 0);
        due("copied anew", x.copiedAt(0, 0), 2);
        due("a cut one keeps it", cut().copiedAt(0, 0), 0);
        due("a stopped one keeps it", stopped().copiedAt(0, 0), 0);
        for (int bad : NOT_ONE_OF_THREE) {
            dueToThrow("subscriber " + bad, OUTSIDE, () -> x.copiedAt(bad, 0));
        }
        for (int bad : NOT_TABLES) {
            dueToThrow("table " + bad, OUTSIDE, () -> x.copiedAt(0, bad));
        }
    }

    private static void promise21Seen() {
        RowReplicator x = new RowReplicator();
        x.put(1, 11, 97, 98, 99);
        x.commit();
        x.subscribe(1, 0);
        x.copy(1, 1);
        due("row", rowSeen(x, 1, 1, 11), "[97, 98, 99]");
        due("no row", rowSeen(x, 1, 1, 10), "[-1, -1, -1]");
        due("other table", rowSeen(x, 1, 0, 11), "[-1, -1, -1]");
        due("other subscriber", rowSeen(x, 0, 1, 11), "[-1, -1, -1]");
        x.take(1, 11);
        x.commit();
        due("the publisher's changes are not seen", x.seen(1, 1, 11, 2), 99);
        for (int bad : NOT_ONE_OF_THREE) {
            dueToThrow("subscriber " + bad, OUTSIDE, () -> x.seen(bad, 1, 11, 0));
            dueToThrow("column " + bad, OUTSIDE, () -> x.seen(1, 1, 11, bad));
            dueToThrow("no row, column " + bad, OUTSIDE, () -> x.seen(1, 0, 0, bad));
        }
        for (int bad : NOT_TABLES) {
            dueToThrow("table " + bad, OUTSIDE, () -> x.seen(1, bad, 11, 0));
        }
        for (int bad : NOT_KEYS) {
            dueToThrow("key " + bad, OUTSIDE, () -> x.seen(1, 1, bad, 0));
        }
    }

    private static void promise22IsFaithful() {
        RowReplicator x = new RowReplicator();
        x.setCondition(0, 0, 0, 1, 50);
        x.setColumns(0, 0, 6);
        x.put(0, 0, 1, 2, 3);
        x.put(0, 1, 50, 2, 3);
        x.commit();
        x.subscribe(0, 0);
        x.copy(0, 0);
        due("after the copy", x.isFaithful(0, 0), true);
        x.put(0, 0, 4, 5, 6);
        due("with an open transaction", x.isFaithful(0, 0), true);
        x.commit();
        due("behind the last commit", x.isFaithful(0, 0), true);
        x.own(0, 0, 0, 3);
        due("with another number", x.isFaithful(0, 0), false);
        x.own(0, 0, 0, -1);
        due("without a row", x.isFaithful(0, 0), false);
        x.receive(0, 1);
        due("put by both sides", x.isFaithful(0, 0), true);
        x.own(0, 0, 11, 0);
        due("with a row too much", x.isFaithful(0, 0), false);
        x.own(0, 0, 11, -1);
        x.own(0, 1, 0, 0);
        x.own(0, 1, 11, 0);
        due("rows of the other table do not count", x.isFaithful(0, 0), true);
        x.subscribe(1, 0);
        x.copy(1, 1);
        due("the other table", x.isFaithful(1, 1), true);
        x.own(1, 1, 11, 0);
        due("the other table with a row too much", x.isFaithful(1, 1), false);
        dueToThrow("table not copied", NOT_NOW, () -> x.isFaithful(0, 1));
        dueToThrow("state 0", NOT_NOW, () -> x.isFaithful(2, 0));
        dueToThrow("state 3", NOT_NOW, () -> cut().isFaithful(0, 0));
        RowReplicator y = stopped();
        due("state 2", y.isFaithful(0, 0), false);
        y.own(0, 0, 5, -1);
        due("state 2, own row away", y.isFaithful(0, 0), true);
        y.goOn(0, true);
        due("a commit skipped", y.isFaithful(0, 0), false);
        for (int bad : NOT_ONE_OF_THREE) {
            dueToThrow("subscriber " + bad, OUTSIDE, () -> x.isFaithful(bad, 0));
        }
        for (int bad : NOT_TABLES) {
            dueToThrow("table " + bad, OUTSIDE, () -> x.isFaithful(0, bad));
            dueToThrow("table " + bad + ", state 0", OUTSIDE, () -> x.isFaithful(2, bad));
        }
    }

    private static void promise22CopiedAheadOfTheSlot() {
        RowReplicator x = followed();
        commitRow(x, 0, 0, 1);
        commitRow(x, 0, 1, 1);
        x.copy(0, 0);
        commitRow(x, 0, 2, 1);
        due("as of the copy, which is later than the slot", x.isFaithful(0, 0), true);
        x.receive(0, 1);
        due("commits up to the copy leave it so", x.isFaithful(0, 0), true);
        x.receive(0, 1);
        due("slot and copy at the same commit", x.isFaithful(0, 0), true);
        x.receive(0, 1);
        due("as of the slot, which is later than the copy", x.isFaithful(0, 0), true);
        due("rows", keysSeen(x, 0, 0), "0 1 2");
    }
}
