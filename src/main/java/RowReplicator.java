/**
 * A replicator of chosen rows: a publisher commits changes of rows to a log, publications choose
 * rows and columns of them, and subscribers copy tables and then follow the log commit by commit.
 */
public final class RowReplicator {
    private static final int TABLES = 2;
    private static final int KEYS = 12;
    private static final int PLACES = TABLES * KEYS;
    private static final int COLUMNS = 3;
    private static final int NUMBERS = 100;
    private static final int PUBLICATIONS = 3;
    private static final int SUBSCRIBERS = 3;
    private static final int MOST_COMMITS = 50;
    private static final int MOST_CHANGES = 12;
    private static final int LIMIT_AT_FIRST = 20;

    private static final int EVERY_ROW = 0;
    private static final int LESS = 1;
    private static final int NOT_LESS = 2;

    private static final int WITHOUT_PUBLICATION = 0;
    private static final int FOLLOWING = 1;
    private static final int STOPPED = 2;
    private static final int CUT = 3;

    // A row is one int with seven bits for each column, so that rows are compared and cut down to
    // a list of columns at once, and no call makes objects.
    private static final int BITS = 7;
    private static final int NUMBER_MASK = (1 << BITS) - 1;
    private static final int ALL_COLUMNS = (1 << COLUMNS) - 1;
    private static final int ALL_NUMBERS_MASK = (1 << (BITS * COLUMNS)) - 1;
    private static final int NO_ROW = -1;

    private static final int NOT_COPIED = -1;
    private static final int EVERY_KEY = -1;

    private final Publisher publisher = new Publisher();
    private final Publication[] publications = new Publication[PUBLICATIONS];
    private final Subscriber[] subscribers = new Subscriber[SUBSCRIBERS];
    private final Trial trial = new Trial();
    private int limit = LIMIT_AT_FIRST;

    public RowReplicator() {
        for (int i = 0; i < PUBLICATIONS; i++) {
            publications[i] = new Publication();
        }
        for (int i = 0; i < SUBSCRIBERS; i++) {
            subscribers[i] = new Subscriber();
        }
    }

    // ---- the publisher

    public boolean put(int table, int key, int first, int second, int third)
            throws IndexOutOfBoundsException, IllegalArgumentException, IllegalStateException {
        checkKey(table, key);
        checkNumber(first);
        checkNumber(second);
        checkNumber(third);
        checkRoomForChange();
        boolean isNew = publisher.rows[placeOf(table, key)] == NO_ROW;
        publisher.change(table, key, rowOf(first, second, third));
        return isNew;
    }

    public void take(int table, int key) throws IndexOutOfBoundsException, IllegalStateException {
        checkKey(table, key);
        checkRoomForChange();
        if (publisher.rows[placeOf(table, key)] == NO_ROW) {
            throw new IllegalStateException("there is no row with this key");
        }
        publisher.change(table, key, NO_ROW);
    }

    public int truncate(int table) throws IndexOutOfBoundsException, IllegalStateException {
        checkTable(table);
        checkRoomForChange();
        int taken = 0;
        for (int key = 0; key < KEYS; key++) {
            if (publisher.rows[placeOf(table, key)] != NO_ROW) {
                taken++;
            }
        }
        publisher.change(table, EVERY_KEY, NO_ROW);
        return taken;
    }

    public int commit() throws IllegalStateException {
        if (publisher.commitCount >= MOST_COMMITS) {
            throw new IllegalStateException("there are 50 commits");
        }
        publisher.close();
        cutLaggards();
        return publisher.commitCount;
    }

    public int rollBack() {
        int undone = publisher.openChanges();
        publisher.undo();
        return undone;
    }

    public int at(int table, int key, int column) throws IndexOutOfBoundsException {
        checkKey(table, key);
        checkColumn(column);
        return numberIn(publisher.rows[placeOf(table, key)], column);
    }

    public int commits() {
        return publisher.commitCount;
    }

    public int setLimit(int limit) throws IllegalArgumentException {
        if (limit < 0 || limit > MOST_COMMITS) {
            throw new IllegalArgumentException("the limit is 0 to 50");
        }
        this.limit = limit;
        return cutLaggards();
    }

    // ---- publications

    public int setCondition(int publication, int table, int column, int relation, int number)
            throws IndexOutOfBoundsException, IllegalArgumentException {
        checkPublication(publication);
        checkTable(table);
        checkColumn(column);
        if (relation < EVERY_ROW || relation > NOT_LESS) {
            throw new IllegalArgumentException("a relation is 0 to 2");
        }
        checkNumber(number);
        Publication changed = publications[publication];
        changed.columns[table] = column;
        changed.relations[table] = relation;
        changed.numbers[table] = number;
        return forgetCopies(changed, table);
    }

    public int setColumns(int publication, int table, int columns)
            throws IndexOutOfBoundsException, IllegalArgumentException {
        checkPublication(publication);
        checkTable(table);
        if (columns < 0 || columns > ALL_COLUMNS) {
            throw new IllegalArgumentException("a set of columns is 0 to 7");
        }
        Publication changed = publications[publication];
        changed.masks[table] = maskOf(columns);
        return forgetCopies(changed, table);
    }

    // ---- subscribers

    public int subscribe(int subscriber, int publication) throws IndexOutOfBoundsException {
        checkSubscriber(subscriber);
        checkPublication(publication);
        Subscriber chosen = subscribers[subscriber];
        int before = chosen.state;
        chosen.follow(publications[publication], publisher.commitCount);
        return before;
    }

    public int drop(int subscriber) throws IndexOutOfBoundsException {
        checkSubscriber(subscriber);
        Subscriber chosen = subscribers[subscriber];
        int before = chosen.state;
        chosen.leave();
        return before;
    }

    public int copy(int subscriber, int table)
            throws IndexOutOfBoundsException, IllegalStateException {
        checkSubscriber(subscriber);
        checkTable(table);
        Subscriber copier = subscribers[subscriber];
        Publication publication = copier.publication;
        if (copier.state != FOLLOWING || publication == null) {
            throw new IllegalStateException("the state of the subscriber is not 1");
        }
        if (publisher.openChanges() > 0) {
            throw new IllegalStateException("a transaction is open");
        }
        int copied = 0;
        for (int key = 0; key < KEYS; key++) {
            int place = placeOf(table, key);
            int row = publication.choose(table, publisher.rows[place]);
            copier.rows[place] = row;
            if (row != NO_ROW) {
                copied++;
            }
        }
        copier.copies[table] = publisher.commitCount;
        return copied;
    }

    public int receive(int subscriber, int most)
            throws IndexOutOfBoundsException, IllegalArgumentException, IllegalStateException {
        checkSubscriber(subscriber);
        if (most < 1 || most > MOST_COMMITS) {
            throw new IllegalArgumentException("1 to 50 commits are taken at most");
        }
        Subscriber receiver = subscribers[subscriber];
        Publication publication = receiver.publication;
        if (receiver.state != FOLLOWING || publication == null) {
            throw new IllegalStateException("the state of the subscriber is not 1");
        }
        int taken = 0;
        while (taken < most && receiver.slot < publisher.commitCount) {
            if (!trial.applies(publisher, publication, receiver)) {
                receiver.state = STOPPED;
                return taken;
            }
            receiver.accept(trial.rows);
            taken++;
        }
        return taken;
    }

    public int goOn(int subscriber, boolean skips)
            throws IndexOutOfBoundsException, IllegalStateException {
        checkSubscriber(subscriber);
        Subscriber stopped = subscribers[subscriber];
        if (stopped.state != STOPPED) {
            throw new IllegalStateException("the state of the subscriber is not 2");
        }
        stopped.state = FOLLOWING;
        // A stopped one has a commit to skip, but as the slot is an index later, it is looked at.
        if (skips && stopped.slot < publisher.commitCount) {
            stopped.slot++;
        }
        return stopped.slot;
    }

    public boolean own(int subscriber, int table, int key, int number)
            throws IndexOutOfBoundsException, IllegalArgumentException {
        checkSubscriber(subscriber);
        checkKey(table, key);
        if (number != NO_ROW) {
            checkNumber(number);
        }
        int[] rows = subscribers[subscriber].rows;
        int place = placeOf(table, key);
        boolean hadRow = rows[place] != NO_ROW;
        rows[place] = number == NO_ROW ? NO_ROW : rowOf(number, number, number);
        return hadRow;
    }

    public int state(int subscriber) throws IndexOutOfBoundsException {
        checkSubscriber(subscriber);
        return subscribers[subscriber].state;
    }

    public int lag(int subscriber) throws IndexOutOfBoundsException {
        checkSubscriber(subscriber);
        return subscribers[subscriber].commitsBehind(publisher.commitCount);
    }

    public int copiedAt(int subscriber, int table) throws IndexOutOfBoundsException {
        checkSubscriber(subscriber);
        checkTable(table);
        return subscribers[subscriber].copies[table];
    }

    public int seen(int subscriber, int table, int key, int column)
            throws IndexOutOfBoundsException {
        checkSubscriber(subscriber);
        checkKey(table, key);
        checkColumn(column);
        return numberIn(subscribers[subscriber].rows[placeOf(table, key)], column);
    }

    public boolean isFaithful(int subscriber, int table)
            throws IndexOutOfBoundsException, IllegalStateException {
        checkSubscriber(subscriber);
        checkTable(table);
        Subscriber judged = subscribers[subscriber];
        Publication publication = judged.publication;
        if (!judged.holdsLog() || publication == null) {
            throw new IllegalStateException("the state of the subscriber is neither 1 nor 2");
        }
        if (judged.copies[table] == NOT_COPIED) {
            throw new IllegalStateException("the table is not copied");
        }
        int commit = Math.max(judged.slot, judged.copies[table]);
        for (int key = 0; key < KEYS; key++) {
            int place = placeOf(table, key);
            int row = publication.choose(table, publisher.rowAsOf(commit, place));
            if (judged.rows[place] != row) {
                return false;
            }
        }
        return true;
    }

    // ---- what several calls share

    private int cutLaggards() {
        int cut = 0;
        for (int i = 0; i < SUBSCRIBERS; i++) {
            if (subscribers[i].commitsBehind(publisher.commitCount) > limit) {
                subscribers[i].state = CUT;
                cut++;
            }
        }
        return cut;
    }

    private int forgetCopies(Publication publication, int table) {
        int forgotten = 0;
        for (int i = 0; i < SUBSCRIBERS; i++) {
            Subscriber subscriber = subscribers[i];
            if (subscriber.publication == publication && subscriber.copies[table] != NOT_COPIED) {
                subscriber.copies[table] = NOT_COPIED;
                forgotten++;
            }
        }
        return forgotten;
    }

    private void checkRoomForChange() {
        if (publisher.openChanges() >= MOST_CHANGES) {
            throw new IllegalStateException("the transaction has 12 changes");
        }
    }

    private static void checkTable(int table) {
        if (table < 0 || table >= TABLES) {
            throw new IndexOutOfBoundsException("a table is 0 or 1");
        }
    }

    private static void checkKey(int table, int key) {
        checkTable(table);
        if (key < 0 || key >= KEYS) {
            throw new IndexOutOfBoundsException("a key is 0 to 11");
        }
    }

    private static void checkColumn(int column) {
        if (column < 0 || column >= COLUMNS) {
            throw new IndexOutOfBoundsException("a column is 0 to 2");
        }
    }

    private static void checkPublication(int publication) {
        if (publication < 0 || publication >= PUBLICATIONS) {
            throw new IndexOutOfBoundsException("a publication is 0 to 2");
        }
    }

    private static void checkSubscriber(int subscriber) {
        if (subscriber < 0 || subscriber >= SUBSCRIBERS) {
            throw new IndexOutOfBoundsException("a subscriber is 0 to 2");
        }
    }

    private static void checkNumber(int number) {
        if (number < 0 || number >= NUMBERS) {
            throw new IllegalArgumentException("a number is 0 to 99");
        }
    }

    private static int placeOf(int table, int key) {
        return table * KEYS + key;
    }

    private static int rowOf(int first, int second, int third) {
        return first | second << BITS | third << (2 * BITS);
    }

    private static int numberIn(int row, int column) {
        return row == NO_ROW ? -1 : row >> (column * BITS) & NUMBER_MASK;
    }

    private static int maskOf(int columns) {
        int mask = 0;
        for (int column = 0; column < COLUMNS; column++) {
            if ((columns >> column & 1) == 1) {
                mask |= NUMBER_MASK << (column * BITS);
            }
        }
        return mask;
    }

    /** The rows of the publisher, its log, and its rows as of each commit. */
    private static final class Publisher {
        private final int[] rows = new int[PLACES];
        private int commitCount = 0;
        // The open transaction stands behind the last commit, so there is one more than commits.
        private final int[] changeCounts = new int[MOST_COMMITS + 1];
        private final int[] changedTables = new int[(MOST_COMMITS + 1) * MOST_CHANGES];
        private final int[] changedKeys = new int[(MOST_COMMITS + 1) * MOST_CHANGES];
        private final int[] newRows = new int[(MOST_COMMITS + 1) * MOST_CHANGES];
        private final int[] committedRows = new int[(MOST_COMMITS + 1) * PLACES];

        Publisher() {
            for (int place = 0; place < PLACES; place++) {
                rows[place] = NO_ROW;
                committedRows[place] = NO_ROW;
            }
        }

        int openChanges() {
            return changeCounts[commitCount];
        }

        void change(int table, int key, int newRow) {
            int index = commitCount * MOST_CHANGES + changeCounts[commitCount];
            changedTables[index] = table;
            changedKeys[index] = key;
            newRows[index] = newRow;
            changeCounts[commitCount]++;
            int from = key == EVERY_KEY ? 0 : key;
            int to = key == EVERY_KEY ? KEYS : key + 1;
            for (int changed = from; changed < to; changed++) {
                rows[placeOf(table, changed)] = newRow;
            }
        }

        void close() {
            commitCount++;
            System.arraycopy(rows, 0, committedRows, commitCount * PLACES, PLACES);
        }

        void undo() {
            changeCounts[commitCount] = 0;
            System.arraycopy(committedRows, commitCount * PLACES, rows, 0, PLACES);
        }

        int rowAsOf(int commit, int place) {
            return committedRows[commit * PLACES + place];
        }
    }

    /** What a publication chooses of each table. */
    private static final class Publication {
        private final int[] columns = new int[TABLES];
        private final int[] relations = new int[TABLES];
        private final int[] numbers = new int[TABLES];
        private final int[] masks = new int[TABLES];

        Publication() {
            for (int table = 0; table < TABLES; table++) {
                masks[table] = ALL_NUMBERS_MASK;
            }
        }

        /** The row as subscribers get it; none if there is none or the condition does not let it. */
        int choose(int table, int row) {
            return row != NO_ROW && lets(table, numberIn(row, columns[table]))
                    ? row & masks[table] : NO_ROW;
        }

        private boolean lets(int table, int number) {
            switch (relations[table]) {
                case LESS:
                    return number < numbers[table];
                case NOT_LESS:
                    return number >= numbers[table];
                default:
                    return true;
            }
        }
    }

    /** A subscriber with its rows, its slot, and the commits as of which its tables are copied. */
    private static final class Subscriber {
        private final int[] rows = new int[PLACES];
        private final int[] copies = new int[TABLES];
        private Publication publication = null;
        private int state = WITHOUT_PUBLICATION;
        private int slot = 0;

        Subscriber() {
            for (int place = 0; place < PLACES; place++) {
                rows[place] = NO_ROW;
            }
            for (int table = 0; table < TABLES; table++) {
                copies[table] = NOT_COPIED;
            }
        }

        void follow(Publication followed, int lastCommit) {
            publication = followed;
            state = FOLLOWING;
            slot = lastCommit;
            forgetTables();
        }

        void leave() {
            publication = null;
            state = WITHOUT_PUBLICATION;
            forgetTables();
        }

        private void forgetTables() {
            for (int table = 0; table < TABLES; table++) {
                copies[table] = NOT_COPIED;
            }
        }

        boolean holdsLog() {
            return state == FOLLOWING || state == STOPPED;
        }

        int commitsBehind(int lastCommit) {
            return holdsLog() ? lastCommit - slot : 0;
        }

        boolean takesChangesOf(int table, int commit) {
            return copies[table] != NOT_COPIED && copies[table] < commit;
        }

        void accept(int[] rowsAfterCommit) {
            System.arraycopy(rowsAfterCommit, 0, rows, 0, PLACES);
            slot++;
        }
    }

    /** One commit tried on a subscriber's rows, which a conflict must leave as they are. */
    private static final class Trial {
        private final int[] oldRows = new int[PLACES];
        private final int[] rows = new int[PLACES];

        /** Whether the commit behind the slot goes through; then rows is what it leaves. */
        boolean applies(Publisher publisher, Publication publication, Subscriber subscriber) {
            int slot = subscriber.slot;
            System.arraycopy(publisher.committedRows, slot * PLACES, oldRows, 0, PLACES);
            System.arraycopy(subscriber.rows, 0, rows, 0, PLACES);
            for (int i = 0; i < publisher.changeCounts[slot]; i++) {
                int index = slot * MOST_CHANGES + i;
                int table = publisher.changedTables[index];
                int key = publisher.changedKeys[index];
                if (!subscriber.takesChangesOf(table, slot + 1)) {
                    continue;
                }
                if (key == EVERY_KEY) {
                    takeAll(publication, table);
                } else if (!follows(publication, table, key, publisher.newRows[index])) {
                    return false;
                }
            }
            return true;
        }

        // Without a new row there is nothing to be put, so no conflict either.
        private void takeAll(Publication publication, int table) {
            for (int key = 0; key < KEYS; key++) {
                follows(publication, table, key, NO_ROW);
            }
        }

        private boolean follows(Publication publication, int table, int key, int newRow) {
            int place = placeOf(table, key);
            int chosenOld = publication.choose(table, oldRows[place]);
            int chosenNew = publication.choose(table, newRow);
            boolean enters = chosenOld == NO_ROW && chosenNew != NO_ROW;
            if (enters && rows[place] != NO_ROW) {
                return false;
            }
            if (enters || chosenOld != NO_ROW) {
                rows[place] = chosenNew;
            }
            oldRows[place] = newRow;
            return true;
        }
    }
}
