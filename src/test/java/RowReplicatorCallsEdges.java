/** The edges that the document's sections 'Promise 1' to 'Promise 22' name, call by call. */
public final class RowReplicatorCallsEdges {
    private static final String NOTHING = "A call that throws an exception changes nothing.";
    private static final String ORDER = "If several apply, IndexOutOfBoundsException goes first, then "
        + "IllegalArgumentException.";

    public static void main(String[] args) {
        newObject();
        putRanges();
        putAnswers();
        takeEdges();
        truncateEdges();
        commitEdges();
        rollBackEdges();
        atEdges();
        commitsEdges();
        setLimitEdges();
        setConditionRanges();
        setConditionAnswers();
        setColumnsRanges();
        setColumnsAnswers();
        subscribeEdges();
        subscribeKeepsRows();
        dropEdges();
        dropLeavesRows();
        copyRanges();
        copyAnswers();
        copyOnlyNow();
        receiveRanges();
        receiveAtMost();
        receiveUpToAConflict();
        goOnEdges();
        ownRanges();
        ownAnswers();
        stateEdges();
        lagEdges();
        copiedAtEdges();
        seenEdges();
        isFaithfulRanges();
        isFaithfulToTheRow();
        isFaithfulAsOfTheLater();
        whichExceptionGoesFirst();
        whichGoesFirstOfAFullTransaction();
        whichGoesFirstOfSubscribers();
        fiveHundredTwelveCalls();
        EdgeRun.end("the edges of the calls");
    }

    // ---- settings that the calls are made on

    /**
     * Rows, conditions and lists of several kinds; subscriber 0 has the state 1, 1 the state 2 and 2
     * the state 3; the slots of 0 and 1 are as far behind as the limit, which is 3, lets.
     */
    private static EdgeRun busy(String sentence) {
        return new EdgeRun(sentence).does(x -> x.setLimit(3))
            .does(x -> x.setCondition(0, 0, 1, 1, 50)).does(x -> x.setColumns(0, 1, 5))
            .does(x -> x.setCondition(1, 1, 2, 2, 30)).does(x -> x.setColumns(1, 0, 3))
            .does(x -> x.subscribe(2, 2)).does(x -> x.copy(2, 1))
            .does(x -> x.put(0, 0, 10, 20, 30)).does(x -> x.put(0, 11, 70, 80, 90))
            .does(x -> x.put(1, 4, 40, 41, 42)).commits(1)
            .follows(0, 0).does(x -> x.subscribe(1, 1)).does(x -> x.copy(1, 0))
            .does(x -> x.own(1, 0, 5, 77)).does(x -> x.put(0, 5, 1, 2, 3)).commits(1)
            .due(0, x -> x.receive(1, 1)).does(x -> x.put(1, 11, 5, 6, 99)).commits(1)
            .does(x -> x.copy(0, 1)).takes(0, 11).commits(1)
            .stateAndLag(0, 1, 3).stateAndLag(1, 2, 3).stateAndLag(2, 3, 0);
    }

    private static EdgeRun busyInATransaction(String sentence) {
        return busy(sentence).does(x -> x.put(0, 0, 11, 21, 31)).does(x -> x.truncate(1))
            .does(x -> x.put(1, 0, 12, 22, 32));
    }

    private static EdgeRun allFollow(String sentence) {
        return new EdgeRun(sentence).does(x -> x.put(0, 0, 1, 2, 3))
            .does(x -> x.put(1, 11, 4, 5, 6))
            .commits(1).follows(0, 0).follows(1, 1).follows(2, 2)
            .does(x -> x.put(0, 0, 7, 8, 9)).commits(1);
    }

    private static EdgeRun allStopped(String sentence) {
        return allFollow(sentence).does(x -> x.own(0, 0, 3, 4)).does(x -> x.own(1, 0, 3, 5))
            .does(x -> x.own(2, 0, 3, 6)).commitsRow(0, 3, 33).does(x -> x.receive(0, 50))
            .does(x -> x.receive(1, 50)).does(x -> x.receive(2, 50));
    }

    private static EdgeRun full(String sentence) {
        return new EdgeRun(sentence).follows(0, 0).fills(0, 1).commits(1).fills(1, 2).commits(1);
    }

    // ---- promises 1 to 4

    private static void newObject() {
        EdgeRun run = new EdgeRun("Creates a publisher without rows, and subscribers without "
            + "publications.").publisherHas(0, "").publisherHas(1, "").due(0, RowReplicator::commits);
        for (int subscriber = 0; subscriber < 3; subscriber++) {
            run.subscriberHas(subscriber, 0, "").subscriberHas(subscriber, 1, "")
                .stateAndLag(subscriber, 0, 0).copiedAt(subscriber, -1, -1);
        }
        run.due(0, RowReplicator::rollBack).due(1, RowReplicator::commit);
    }

    private static void putRanges() {
        EdgeRun.range(n -> busyInATransaction("Promise 2: `table`: 0 or 1"), EdgeRun.OUTSIDE, 0, 1,
            n -> x -> x.put(n, 0, 91, 92, 93));
        EdgeRun.range(n -> busyInATransaction("Promise 2: `key`: 0 to 11"), EdgeRun.OUTSIDE, 0, 11,
            n -> x -> x.put(1, n, 91, 92, 93));
        EdgeRun.range(n -> busyInATransaction("Promise 2: `first`: number in column 0, 0 to 99"),
            EdgeRun.ARGUMENT, 0, 99, n -> x -> x.put(0, 0, n, 92, 93));
        EdgeRun.range(n -> busyInATransaction("Promise 2: `second`: number in column 1, 0 to 99"),
            EdgeRun.ARGUMENT, 0, 99, n -> x -> x.put(0, 0, 91, n, 93));
        EdgeRun.range(n -> busyInATransaction("Promise 2: `third`: number in column 2, 0 to 99"),
            EdgeRun.ARGUMENT, 0, 99, n -> x -> x.put(0, 0, 91, 92, n));
        new EdgeRun("Throws `IllegalArgumentException` if first, second or third is out of range")
            .refused(EdgeRun.ARGUMENT, x -> x.put(0, 0, 100, 0, 0))
            .refused(EdgeRun.ARGUMENT, x -> x.put(0, 0, 0, 100, 0))
            .refused(EdgeRun.ARGUMENT, x -> x.put(0, 0, 0, 0, 100)).publisherHas(0, "")
            .due(true, x -> x.put(0, 0, 0, 99, 0)).publisherHas(0, "0:0,99,0")
            .due(false, x -> x.put(0, 0, 99, 0, 99)).publisherHas(0, "0:99,0,99")
            .due(true, x -> x.put(1, 11, 1, 98, 0)).publisherHas(1, "11:1,98,0");
    }

    private static void putAnswers() {
        new EdgeRun("Returns true if there was no row with this key.")
            .due(true, EdgeRun.put(0, 0, 1)).due(false, EdgeRun.put(0, 0, 1))
            .due(true, EdgeRun.put(0, 1, 1)).due(true, EdgeRun.put(1, 0, 1))
            .due(true, EdgeRun.put(0, 11, 0)).due(false, EdgeRun.put(0, 11, 0))
            .takes(0, 0).due(true, EdgeRun.put(0, 0, 1)).does(x -> x.truncate(0))
            .due(true, EdgeRun.put(0, 0, 1)).due(false, EdgeRun.put(1, 0, 1)).commits(1)
            .due(false, EdgeRun.put(0, 0, 2)).due(true, EdgeRun.put(0, 11, 2))
            .does(RowReplicator::rollBack).due(false, EdgeRun.put(0, 0, 2))
            .due(true, EdgeRun.put(0, 11, 2));
    }

    private static void takeEdges() {
        EdgeRun.range(n -> full("Promise 3: `table`: 0 or 1"), EdgeRun.OUTSIDE, 0, 1,
            n -> EdgeRun.take(n, 6));
        EdgeRun.range(n -> full("Promise 3: `key`: 0 to 11"), EdgeRun.OUTSIDE, 0, 11,
            n -> EdgeRun.take(1, n));
        new EdgeRun("Throws `IllegalStateException` if there is no row with this key, or the "
                + "transaction has 12 changes")
            .refused(EdgeRun.NOT_NOW, EdgeRun.take(0, 5)).due(0, RowReplicator::rollBack)
            .puts(0, 4, 1).puts(0, 6, 1).puts(1, 5, 1)
            .refused(EdgeRun.NOT_NOW, EdgeRun.take(0, 5)).due(3, RowReplicator::rollBack)
            .commitsRow(0, 5, 1).takes(0, 5).publisherHas(0, "")
            .refused(EdgeRun.NOT_NOW, EdgeRun.take(0, 5)).due(1, RowReplicator::rollBack)
            .publisherHas(0, "5:1,1,1").does(x -> x.truncate(0))
            .refused(EdgeRun.NOT_NOW, EdgeRun.take(0, 5)).due(1, RowReplicator::rollBack)
            .takes(0, 5).commits(1).refused(EdgeRun.NOT_NOW, EdgeRun.take(0, 5))
            .due(true, EdgeRun.put(0, 5, 0)).takes(0, 5).due(2, RowReplicator::rollBack);
        new EdgeRun("Takes a row away.").puts(0, 0, 1).puts(0, 1, 2)
            .puts(0, 11, 3).puts(1, 0, 4).puts(1, 11, 5)
            .takes(0, 0).publisherHas(0, "1:2,2,2 11:3,3,3")
            .takes(1, 11).publisherHas(1, "0:4,4,4")
            .publisherHas(0, "1:2,2,2 11:3,3,3");
    }

    private static void truncateEdges() {
        EdgeRun.range(n -> busyInATransaction("Promise 4: `table`: 0 or 1"), EdgeRun.OUTSIDE, 0, 1,
            n -> x -> x.truncate(n));
        new EdgeRun("Promise 4: Returns how many.").due(0, x -> x.truncate(0))
            .puts(1, 0, 0).due(0, x -> x.truncate(0)).due(1, x -> x.truncate(1))
            .puts(1, 0, 1).puts(1, 11, 1).due(2, x -> x.truncate(1))
            .due(0, x -> x.truncate(1)).due(8, RowReplicator::rollBack)
            .fills(0, 1).commits(1).due(12, x -> x.truncate(0)).due(0, x -> x.truncate(0))
            .due(2, RowReplicator::rollBack).takes(0, 0).due(11, x -> x.truncate(0));
    }

    // ---- promises 5 to 9

    private static void commitEdges() {
        new EdgeRun("Commits the transaction, an empty one if none is open.").follows(0, 0)
            .due(1, RowReplicator::commit).puts(0, 0, 1).due(2, RowReplicator::commit)
            .due(0, RowReplicator::rollBack).publisherHas(0, "0:1,1,1")
            .due(3, RowReplicator::commit)
            .puts(0, 0, 2).does(RowReplicator::rollBack).publisherHas(0, "0:1,1,1")
            .due(3, x -> x.receive(0, 50)).subscriberHas(0, 0, "0:1,1,1");
        EdgeRun run = new EdgeRun("Throws `IllegalStateException` if there are 50 commits")
            .commits(48).due(49, RowReplicator::commit).due(50, RowReplicator::commit);
        run.refused(EdgeRun.NOT_NOW, RowReplicator::commit).puts(0, 0, 1)
            .refused(EdgeRun.NOT_NOW, RowReplicator::commit).due(50, RowReplicator::commits)
            .due(1, RowReplicator::rollBack).refused(EdgeRun.NOT_NOW, RowReplicator::commit);
    }

    private static void rollBackEdges() {
        EdgeRun run = new EdgeRun("Promise 6: Returns how many changes it had.")
            .due(0, RowReplicator::rollBack).due(0, RowReplicator::rollBack)
            .puts(0, 0, 1).due(1, RowReplicator::rollBack).due(0, RowReplicator::rollBack)
            .puts(0, 0, 1).puts(0, 0, 1).due(2, RowReplicator::rollBack)
            .does(x -> x.truncate(0)).due(1, RowReplicator::rollBack)
            .commitsRow(0, 0, 1).due(0, RowReplicator::rollBack).publisherHas(0, "0:1,1,1")
            .takes(0, 0).due(1, RowReplicator::rollBack).publisherHas(0, "0:1,1,1");
        run.fills(1, 1).due(12, RowReplicator::rollBack).publisherHas(1, "");
        for (int key = 0; key < 11; key++) {
            run.puts(1, key, 1);
        }
        run.due(11, RowReplicator::rollBack).publisherHas(1, "").publisherHas(0, "0:1,1,1")
            .due(1, RowReplicator::commits);
    }

    private static void atEdges() {
        EdgeRun.range(n -> busy("Promise 7: `table`: 0 or 1"), EdgeRun.OUTSIDE, 0, 1,
            n -> x -> x.at(n, 0, 0));
        EdgeRun.range(n -> busy("Promise 7: `key`: 0 to 11"), EdgeRun.OUTSIDE, 0, 11,
            n -> x -> x.at(1, n, 0));
        EdgeRun.range(n -> busy("Promise 7: `column`: 0 to 2"), EdgeRun.OUTSIDE, 0, 2,
            n -> x -> x.at(0, 0, n));
        EdgeRun.range(n -> new EdgeRun("Promise 7: `column`: 0 to 2"), EdgeRun.OUTSIDE, 0, 2,
            n -> x -> x.at(0, 0, n));
        new EdgeRun("Promise 7: Returns the number, -1 if there is no row.")
            .does(x -> x.put(0, 0, 0, 1, 99)).does(x -> x.put(1, 11, 99, 0, 1))
            .due(0, x -> x.at(0, 0, 0)).due(1, x -> x.at(0, 0, 1)).due(99, x -> x.at(0, 0, 2))
            .due(99, x -> x.at(1, 11, 0)).due(0, x -> x.at(1, 11, 1)).due(1, x -> x.at(1, 11, 2))
            .due(-1, x -> x.at(0, 1, 0)).due(-1, x -> x.at(1, 10, 1)).due(-1, x -> x.at(1, 0, 2))
            .due(-1, x -> x.at(0, 11, 0)).takes(0, 0).due(-1, x -> x.at(0, 0, 0))
            .due(-1, x -> x.at(0, 0, 1)).due(-1, x -> x.at(0, 0, 2));
    }

    private static void commitsEdges() {
        EdgeRun run = new EdgeRun("Returns the number of commits.").due(0, RowReplicator::commits)
            .puts(0, 0, 1).due(0, RowReplicator::commits);
        for (int number = 1; number <= 50; number++) {
            run.commits(1).due(number, RowReplicator::commits);
        }
        run.refused(EdgeRun.NOT_NOW, RowReplicator::commit).due(50, RowReplicator::commits)
            .puts(0, 0, 1).due(50, RowReplicator::commits);
    }

    private static void setLimitEdges() {
        EdgeRun.range(n -> busyInATransaction("`limit`: 0 to 50"), EdgeRun.ARGUMENT, 0, 50,
            n -> x -> x.setLimit(n));
        new EdgeRun("Returns how many subscribers are cut by that.")
            .due(0, x -> x.setLimit(0)).due(0, x -> x.setLimit(50)).follows(0, 0).commits(1)
            .follows(1, 0).follows(2, 0).commits(1)
            .due(0, x -> x.setLimit(2)).due(1, x -> x.setLimit(1)).due(0, x -> x.setLimit(1))
            .due(2, x -> x.setLimit(0)).due(0, x -> x.setLimit(0))
            .stateAndLag(0, 3, 0).stateAndLag(1, 3, 0).stateAndLag(2, 3, 0);
        new EdgeRun("Returns how many subscribers are cut by that.")
            .does(x -> x.setLimit(50)).follows(0, 0).follows(1, 0).follows(2, 0).commits(49)
            .due(0, x -> x.setLimit(49)).does(x -> x.setLimit(50)).commits(1)
            .due(0, x -> x.setLimit(50)).due(1, x -> x.receive(1, 1)).due(2, x -> x.setLimit(49))
            .stateAndLag(1, 1, 49).due(1, x -> x.setLimit(48));
    }

    // ---- promises 10 and 11

    private static void setConditionRanges() {
        EdgeRun.range(n -> busyInATransaction("Promise 10: `publication`: 0 to 2"), EdgeRun.OUTSIDE,
            0, 2, n -> x -> x.setCondition(n, 0, 0, 2, 25));
        EdgeRun.range(n -> busyInATransaction("Promise 10: `table`: 0 or 1"), EdgeRun.OUTSIDE, 0, 1,
            n -> x -> x.setCondition(0, n, 0, 2, 25));
        for (int i = 0; i < 4; i++) {
            int publication = i / 2;
            int table = i % 2;
            EdgeRun.range(n -> busyInATransaction("Promise 10: `column`: 0 to 2"), EdgeRun.OUTSIDE,
                0, 2, n -> x -> x.setCondition(publication, table, n, 2 - publication, 25));
            EdgeRun.range(n -> busyInATransaction("Promise 10: `relation`: 0 to 2"), EdgeRun.ARGUMENT,
                0, 2, n -> x -> x.setCondition(publication, table, 0, n, 25));
            EdgeRun.range(n -> busyInATransaction("Promise 10: `number`: 0 to 99"), EdgeRun.ARGUMENT,
                0, 99, n -> x -> x.setCondition(publication, table, 0, 2 - publication, n));
            EdgeRun.range(n -> busyInATransaction("Promise 10: `number`: 0 to 99"), EdgeRun.ARGUMENT,
                0, 99, n -> x -> x.setCondition(publication, table, 0, 0, n));
        }
    }

    private static void setConditionAnswers() {
        String sentence = "Promise 10: Returns for how many subscribers the table was copied and is "
            + "not any more.";
        howManyAreForgotten(sentence, x -> x.setCondition(0, 0, 0, 0, 0));
        howManyAreForgotten(sentence, x -> x.setCondition(0, 0, 2, 2, 99));
        new EdgeRun("Sets a condition.").does(x -> x.put(1, 0, 10, 20, 30))
            .does(x -> x.put(1, 1, 30, 10, 20)).does(x -> x.put(1, 2, 20, 30, 10)).commits(1)
            .does(x -> x.subscribe(0, 2)).does(x -> x.setCondition(2, 1, 0, 1, 20))
            .due(1, x -> x.copy(0, 1)).subscriberHas(0, 1, "0:10,20,30")
            .does(x -> x.setCondition(2, 1, 1, 1, 21)).due(2, x -> x.copy(0, 1))
            .subscriberHas(0, 1, "0:10,20,30 1:30,10,20")
            .does(x -> x.setCondition(2, 1, 2, 2, 30)).due(1, x -> x.copy(0, 1))
            .subscriberHas(0, 1, "0:10,20,30").does(x -> x.setCondition(2, 1, 2, 2, 31))
            .due(0, x -> x.copy(0, 1)).does(x -> x.setCondition(2, 1, 2, 0, 31))
            .due(3, x -> x.copy(0, 1));
    }

    /** 0 to 3 subscribers to publication 0 with table 0 copied. */
    private static void howManyAreForgotten(String sentence, EdgeRun.Call setting) {
        new EdgeRun(sentence).due(0, setting).does(x -> x.subscribe(2, 0)).due(0, setting)
            .does(x -> x.copy(2, 1)).due(0, setting).copiedAt(2, -1, 0)
            .does(x -> x.copy(2, 0)).copiedAt(2, 0, 0).due(1, setting).copiedAt(2, -1, 0)
            .follows(0, 0).follows(1, 1).follows(2, 0).due(2, setting).copiedAt(1, 0, 0)
            .follows(1, 0).follows(0, 0).follows(2, 0).due(3, setting).due(0, setting)
            .follows(1, 0).follows(0, 0).does(x -> x.subscribe(0, 0)).due(1, setting)
            .follows(1, 0).does(x -> x.drop(1)).due(0, setting).copiedAt(1, -1, -1)
            .follows(1, 0).does(x -> x.setLimit(0)).commits(1).stateAndLag(1, 3, 0).due(1, setting)
            .copiedAt(1, -1, 0);
    }

    private static void setColumnsRanges() {
        EdgeRun.range(n -> busyInATransaction("Promise 11: `publication`: 0 to 2"), EdgeRun.OUTSIDE,
            0, 2, n -> x -> x.setColumns(n, 0, 2));
        EdgeRun.range(n -> busyInATransaction("Promise 11: `table`: 0 or 1"), EdgeRun.OUTSIDE, 0, 1,
            n -> x -> x.setColumns(0, n, 2));
        for (int i = 0; i < 4; i++) {
            int publication = i / 2;
            int table = i % 2;
            EdgeRun.range(n -> busyInATransaction("`columns`: a set of columns: bit c for column c, "
                + "0 to 7"), EdgeRun.ARGUMENT, 0, 7, n -> x -> x.setColumns(publication, table, n));
        }
    }

    private static void setColumnsAnswers() {
        String sentence = "Promise 11: Returns for how many subscribers the table was copied and is "
            + "not any more.";
        howManyAreForgotten(sentence, x -> x.setColumns(0, 0, 7));
        howManyAreForgotten(sentence, x -> x.setColumns(0, 0, 0));
        String[] rows = {"0,0,0", "91,0,0", "0,92,0", "91,92,0", "0,0,93", "91,0,93", "0,92,93",
            "91,92,93"};
        EdgeRun run = new EdgeRun("`columns`: a set of columns: bit c for column c, 0 to 7")
            .does(x -> x.put(0, 3, 91, 92, 93)).commits(1).does(x -> x.subscribe(0, 2));
        for (int i = 0; i < 8; i++) {
            int columns = i;
            run.does(x -> x.setColumns(2, 0, columns)).due(1, x -> x.copy(0, 0))
                .subscriberHas(0, 0, "3:" + rows[columns]);
        }
    }

    // ---- promises 12 to 14

    private static void subscribeEdges() {
        EdgeRun.range(n -> busyInATransaction("Promise 12: `subscriber`: 0 to 2"), EdgeRun.OUTSIDE,
            0, 2, n -> x -> x.subscribe(n, 2));
        for (int i = 0; i < 3; i++) {
            int subscriber = i;
            EdgeRun.range(n -> busyInATransaction("Promise 12: `publication`: 0 to 2"),
                EdgeRun.OUTSIDE, 0, 2, n -> x -> x.subscribe(subscriber, n));
        }
        busyInATransaction("Promise 12: Returns its state before.")
            .due(1, x -> x.subscribe(0, 1)).due(2, x -> x.subscribe(1, 2))
            .due(3, x -> x.subscribe(2, 0)).due(1, x -> x.subscribe(0, 1))
            .due(1, x -> x.subscribe(2, 1)).does(x -> x.drop(1)).due(0, x -> x.subscribe(1, 1))
            .stateAndLag(0, 1, 0).stateAndLag(1, 1, 0).stateAndLag(2, 1, 0)
            .copiedAt(0, -1, -1).copiedAt(1, -1, -1).copiedAt(2, -1, -1);
    }

    private static void subscribeKeepsRows() {
        new EdgeRun("Its rows stay until tables are copied.").puts(0, 3, 30)
            .puts(1, 4, 40).commits(1).does(x -> x.own(0, 0, 0, 5))
            .does(x -> x.own(0, 1, 11, 6)).due(0, x -> x.subscribe(0, 0))
            .subscriberHas(0, 0, "0:5,5,5").subscriberHas(0, 1, "11:6,6,6")
            .does(x -> x.copy(0, 0)).does(x -> x.subscribe(0, 1)).subscriberHas(0, 0, "3:30,30,30")
            .subscriberHas(0, 1, "11:6,6,6").does(x -> x.truncate(0)).does(x -> x.truncate(1))
            .commits(1)
            .due(1, x -> x.receive(0, 50)).subscriberHas(0, 0, "3:30,30,30")
            .subscriberHas(0, 1, "11:6,6,6").due(0, x -> x.copy(0, 0)).subscriberHas(0, 0, "")
            .subscriberHas(0, 1, "11:6,6,6").due(0, x -> x.copy(0, 1)).subscriberHas(0, 1, "");
    }

    private static void dropEdges() {
        EdgeRun.range(n -> busyInATransaction("Promise 13: `subscriber`: 0 to 2"), EdgeRun.OUTSIDE,
            0, 2, n -> x -> x.drop(n));
        busyInATransaction("Promise 13: Returns its state before.")
            .due(1, x -> x.drop(0)).due(0, x -> x.drop(0)).due(2, x -> x.drop(1))
            .due(0, x -> x.drop(1)).due(3, x -> x.drop(2)).due(0, x -> x.drop(2))
            .stateAndLag(0, 0, 0).stateAndLag(1, 0, 0).stateAndLag(2, 0, 0)
            .copiedAt(0, -1, -1).copiedAt(1, -1, -1).copiedAt(2, -1, -1)
            .due(0, x -> x.setLimit(0)).does(RowReplicator::rollBack).commits(1)
            .stateAndLag(0, 0, 0).stateAndLag(1, 0, 0).stateAndLag(2, 0, 0);
    }

    private static void dropLeavesRows() {
        String sentence = "Drops the subscription of a subscriber; its state is 0, no table is copied "
            + "any more, its rows stay.";
        new EdgeRun(sentence).puts(0, 0, 1).puts(1, 11, 2).commits(1)
            .follows(0, 0).follows(1, 0).does(x -> x.own(0, 0, 5, 7)).commitsRow(0, 1, 3)
            .due(1, x -> x.drop(0)).stateAndLag(0, 0, 0).copiedAt(0, -1, -1)
            .subscriberHas(0, 0, "0:1,1,1 5:7,7,7").subscriberHas(0, 1, "11:2,2,2")
            .stateAndLag(1, 1, 1).copiedAt(1, 1, 1)
            .refused(EdgeRun.NOT_NOW, x -> x.receive(0, 1))
            .refused(EdgeRun.NOT_NOW, x -> x.copy(0, 0))
            .refused(EdgeRun.NOT_NOW, x -> x.goOn(0, true))
            .refused(EdgeRun.NOT_NOW, x -> x.isFaithful(0, 0))
            .due(1, x -> x.setColumns(0, 0, 7)).due(0, x -> x.subscribe(0, 0))
            .stateAndLag(0, 1, 0).copiedAt(0, -1, -1);
        new EdgeRun(sentence).follows(0, 0).does(x -> x.setLimit(0)).commits(1)
            .due(3, x -> x.drop(0)).stateAndLag(0, 0, 0).copiedAt(0, -1, -1)
            .due(0, x -> x.setCondition(0, 1, 0, 0, 0));
    }

    private static void copyRanges() {
        EdgeRun.range(n -> allFollow("Promise 14: `subscriber`: 0 to 2"), EdgeRun.OUTSIDE, 0, 2,
            n -> x -> x.copy(n, 1));
        EdgeRun.range(n -> allFollow("Promise 14: `table`: 0 or 1"), EdgeRun.OUTSIDE, 0, 1,
            n -> x -> x.copy(1, n));
    }

    private static void copyAnswers() {
        new EdgeRun("Returns how many rows it gets.").does(x -> x.subscribe(0, 0))
            .due(0, x -> x.copy(0, 0)).commitsRow(0, 0, 0).due(1, x -> x.copy(0, 0))
            .due(1, x -> x.copy(0, 0)).due(0, x -> x.copy(0, 1)).fills(0, 50).commits(1)
            .due(12, x -> x.copy(0, 0)).takes(0, 11).commits(1)
            .due(11, x -> x.copy(0, 0)).does(x -> x.setColumns(0, 0, 0)).due(11, x -> x.copy(0, 0))
            .does(x -> x.setCondition(0, 0, 0, 1, 50)).due(0, x -> x.copy(0, 0))
            .does(x -> x.setCondition(0, 0, 0, 1, 51)).due(11, x -> x.copy(0, 0))
            .due(0, x -> x.copy(0, 1)).stateAndLag(0, 1, 3);
    }

    private static void copyOnlyNow() {
        String sentence = "Throws `IllegalStateException` if the state of the subscriber is not 1, or "
            + "a transaction is open";
        busy(sentence).does(x -> x.copy(0, 0)).refused(EdgeRun.NOT_NOW, x -> x.copy(1, 0))
            .refused(EdgeRun.NOT_NOW, x -> x.copy(2, 1)).does(x -> x.drop(2))
            .refused(EdgeRun.NOT_NOW, x -> x.copy(2, 1));
        busyInATransaction(sentence).refused(EdgeRun.NOT_NOW, x -> x.copy(0, 0))
            .refused(EdgeRun.NOT_NOW, x -> x.copy(0, 1)).does(RowReplicator::rollBack)
            .due(2, x -> x.copy(0, 0)).does(x -> x.truncate(1))
            .refused(EdgeRun.NOT_NOW, x -> x.copy(0, 0));
    }

    // ---- promises 15 and 16

    private static void receiveRanges() {
        EdgeRun.range(n -> allFollow("Promise 15: `subscriber`: 0 to 2"), EdgeRun.OUTSIDE, 0, 2,
            n -> x -> x.receive(n, 1));
        EdgeRun.range(n -> allFollow("`most`: 1 to 50: how many it takes at most"), EdgeRun.ARGUMENT,
            1, 50, n -> x -> x.receive(0, n));
        busyInATransaction("Promise 15: Throws `IllegalStateException` if its state is not 1")
            .refused(EdgeRun.NOT_NOW, x -> x.receive(1, 1))
            .refused(EdgeRun.NOT_NOW, x -> x.receive(1, 50))
            .refused(EdgeRun.NOT_NOW, x -> x.receive(2, 1)).due(1, x -> x.receive(0, 1))
            .does(x -> x.drop(2)).refused(EdgeRun.NOT_NOW, x -> x.receive(2, 50));
    }

    private static void receiveAtMost() {
        String sentence = "`most`: 1 to 50: how many it takes at most";
        for (int i = 1; i <= 5; i++) {
            int most = i;
            int taken = Math.min(most, 3);
            new EdgeRun(sentence).follows(0, 0).commitsRow(0, 0, 1).commitsRow(0, 1, 2)
                .commitsRow(0, 2, 3).puts(0, 3, 4).due(taken, x -> x.receive(0, most))
                .stateAndLag(0, 1, 3 - taken)
                .subscriberHas(0, 0, taken == 1 ? "0:1,1,1" : taken == 2 ? "0:1,1,1 1:2,2,2"
                    : "0:1,1,1 1:2,2,2 2:3,3,3")
                .due(3 - taken, x -> x.receive(0, 50)).due(0, x -> x.receive(0, 1));
        }
        new EdgeRun(sentence).does(x -> x.setLimit(50)).follows(0, 0).follows(1, 0).follows(2, 0)
            .due(0, x -> x.receive(0, 1)).due(0, x -> x.receive(0, 50))
            .commits(49).commitsRow(0, 0, 1).due(49, x -> x.receive(0, 49)).stateAndLag(0, 1, 1)
            .subscriberHas(0, 0, "").due(50, x -> x.receive(1, 50)).stateAndLag(1, 1, 0)
            .subscriberHas(1, 0, "0:1,1,1").due(1, x -> x.receive(0, 50))
            .due(48, x -> x.receive(2, 48)).due(2, x -> x.receive(2, 49));
    }

    /** Commit 3 is the conflict: as many commits as are ahead of it, one less and one more. */
    private static void receiveUpToAConflict() {
        String sentence = "Lets a subscriber take commits, until there are no more, or there is a "
            + "conflict.";
        for (int i = 1; i <= 4; i++) {
            int most = i;
            int taken = Math.min(most, 2);
            boolean stops = most > 2;
            new EdgeRun(sentence).follows(0, 0).does(x -> x.own(0, 1, 5, 7)).commitsRow(0, 0, 1)
                .commitsRow(0, 1, 2).commitsRow(1, 5, 3).commitsRow(0, 2, 4)
                .due(taken, x -> x.receive(0, most)).stateAndLag(0, stops ? 2 : 1, 4 - taken)
                .subscriberHas(0, 0, taken == 1 ? "0:1,1,1" : "0:1,1,1 1:2,2,2")
                .subscriberHas(0, 1, "5:7,7,7");
        }
        new EdgeRun("Promise 15: Returns how many it has taken.").follows(0, 0)
            .does(x -> x.own(0, 0, 5, 7)).due(0, x -> x.receive(0, 1)).commits(1)
            .due(1, x -> x.receive(0, 2)).commits(1).commitsRow(0, 5, 1)
            .due(1, x -> x.receive(0, 2)).stateAndLag(0, 2, 1).does(x -> x.goOn(0, false))
            .due(0, x -> x.receive(0, 1)).stateAndLag(0, 2, 1).does(x -> x.goOn(0, true))
            .due(0, x -> x.receive(0, 1)).commits(2).due(2, x -> x.receive(0, 50));
        new EdgeRun(sentence).follows(0, 0).due(0, x -> x.receive(0, 50)).stateAndLag(0, 1, 0)
            .puts(0, 0, 1).due(0, x -> x.receive(0, 50)).subscriberHas(0, 0, "");
    }

    private static void goOnEdges() {
        EdgeRun.range(n -> allStopped("Promise 16: `subscriber`: 0 to 2"), EdgeRun.OUTSIDE, 0, 2,
            n -> x -> x.goOn(n, true));
        EdgeRun.range(n -> allStopped("Promise 16: `subscriber`: 0 to 2"), EdgeRun.OUTSIDE, 0, 2,
            n -> x -> x.goOn(n, false));
        for (boolean skips : new boolean[] {false, true}) {
            busyInATransaction("Promise 16: Throws `IllegalStateException` if its state is not 2")
                .refused(EdgeRun.NOT_NOW, x -> x.goOn(0, skips))
                .refused(EdgeRun.NOT_NOW, x -> x.goOn(2, skips)).does(x -> x.drop(2))
                .refused(EdgeRun.NOT_NOW, x -> x.goOn(2, skips))
                .due(skips ? 2 : 1, x -> x.goOn(1, skips))
                .refused(EdgeRun.NOT_NOW, x -> x.goOn(1, skips)).stateAndLag(1, 1, skips ? 2 : 3);
        }
        allStopped("Lets a subscriber that was stopped by a conflict go on; its state is 1.")
            .does(x -> x.goOn(0, true)).does(x -> x.goOn(2, false))
            .stateAndLag(0, 1, 0).stateAndLag(1, 2, 1).stateAndLag(2, 1, 1);
        String sentence = "Returns number of the commit at which its slot is then.";
        new EdgeRun(sentence).follows(0, 0).does(x -> x.own(0, 0, 5, 7)).commitsRow(0, 5, 1)
            .takes(0, 5).commits(1).commitsRow(0, 5, 2)
            .due(0, x -> x.receive(0, 50)).due(0, x -> x.goOn(0, false)).stateAndLag(0, 1, 3)
            .due(0, x -> x.receive(0, 50)).due(1, x -> x.goOn(0, true)).stateAndLag(0, 1, 2)
            .does(x -> x.receive(0, 1)).does(x -> x.own(0, 0, 5, 7))
            .due(0, x -> x.receive(0, 50)).due(2, x -> x.goOn(0, false)).stateAndLag(0, 1, 1)
            .due(0, x -> x.receive(0, 50)).due(3, x -> x.goOn(0, true)).stateAndLag(0, 1, 0)
            .subscriberHas(0, 0, "5:7,7,7").due(0, x -> x.receive(0, 50));
    }

    // ---- promises 17 to 21

    private static void ownRanges() {
        EdgeRun.range(n -> busyInATransaction("Promise 17: `subscriber`: 0 to 2"), EdgeRun.OUTSIDE,
            0, 2, n -> x -> x.own(n, 0, 0, 5));
        EdgeRun.range(n -> busyInATransaction("Promise 17: `table`: 0 or 1"), EdgeRun.OUTSIDE, 0, 1,
            n -> x -> x.own(0, n, 0, 5));
        for (int i = 0; i < 6; i++) {
            int subscriber = i / 2;
            int table = i % 2;
            EdgeRun.range(n -> busyInATransaction("Promise 17: `key`: 0 to 11"), EdgeRun.OUTSIDE,
                0, 11, n -> x -> x.own(subscriber, table, n, 5));
            EdgeRun.range(n -> busyInATransaction("Promise 17: `number`: 0 to 99, or -1 to take the "
                + "row away"), EdgeRun.ARGUMENT, -1, 99, n -> x -> x.own(subscriber, table, 0, n));
        }
    }

    private static void ownAnswers() {
        new EdgeRun("Returns true if there was a row with this key.")
            .due(false, x -> x.own(0, 0, 0, -1)).due(false, x -> x.own(0, 0, 0, 0))
            .due(true, x -> x.own(0, 0, 0, 0)).due(false, x -> x.own(0, 0, 1, 99))
            .due(false, x -> x.own(0, 1, 0, 1)).due(false, x -> x.own(1, 0, 0, 98))
            .due(false, x -> x.own(2, 1, 11, 50)).subscriberHas(0, 0, "0:0,0,0 1:99,99,99")
            .subscriberHas(0, 1, "0:1,1,1").subscriberHas(1, 0, "0:98,98,98")
            .subscriberHas(2, 1, "11:50,50,50").publisherHas(0, "")
            .due(true, x -> x.own(0, 0, 0, -1)).due(false, x -> x.own(0, 0, 0, -1))
            .subscriberHas(0, 0, "1:99,99,99").due(true, x -> x.own(0, 0, 1, -1))
            .subscriberHas(0, 0, "").subscriberHas(0, 1, "0:1,1,1");
        allStopped("Puts a row of its own into a table of a subscriber, with one number in all "
                + "columns, or takes a row away there.")
            .due(true, x -> x.own(0, 0, 0, 9)).due(true, x -> x.own(0, 1, 11, -1))
            .due(true, x -> x.own(0, 0, 3, 9)).subscriberHas(0, 0, "0:9,9,9 3:9,9,9")
            .subscriberHas(0, 1, "").stateAndLag(0, 2, 1).copiedAt(0, 1, 1)
            .does(x -> x.setLimit(0)).due(true, x -> x.own(0, 0, 3, -1))
            .due(false, x -> x.own(0, 0, 3, 8)).stateAndLag(0, 3, 0)
            .subscriberHas(0, 0, "0:9,9,9 3:8,8,8");
    }

    private static void stateEdges() {
        EdgeRun.range(n -> busyInATransaction("Promise 18: `subscriber`: 0 to 2"), EdgeRun.OUTSIDE,
            0, 2, n -> x -> x.state(n));
        busy("Returns 0 to 3.").due(1, x -> x.state(0)).due(2, x -> x.state(1))
            .due(3, x -> x.state(2)).does(x -> x.drop(2)).due(0, x -> x.state(2))
            .does(x -> x.goOn(1, false)).due(1, x -> x.state(1)).commits(1)
            .due(3, x -> x.state(0)).due(3, x -> x.state(1)).due(0, x -> x.state(2));
    }

    private static void lagEdges() {
        EdgeRun.range(n -> busyInATransaction("Promise 19: `subscriber`: 0 to 2"), EdgeRun.OUTSIDE,
            0, 2, n -> x -> x.lag(n));
        String sentence = "Returns the number, 0 if its state is 0 or 3.";
        new EdgeRun(sentence).does(x -> x.subscribe(0, 0)).due(0, x -> x.lag(0))
            .puts(0, 0, 1).due(0, x -> x.lag(0)).commits(1).due(1, x -> x.lag(0))
            .does(x -> x.subscribe(1, 0)).commits(1).due(2, x -> x.lag(0)).due(1, x -> x.lag(1))
            .due(0, x -> x.lag(2)).does(x -> x.receive(0, 1)).due(1, x -> x.lag(0))
            .does(x -> x.receive(0, 1)).due(0, x -> x.lag(0)).commits(2).due(2, x -> x.lag(0))
            .due(3, x -> x.lag(1)).does(x -> x.drop(0)).due(0, x -> x.lag(0))
            .due(1, x -> x.setLimit(2)).due(0, x -> x.lag(1)).commits(1).due(0, x -> x.lag(1));
        new EdgeRun(sentence).does(x -> x.setLimit(50)).follows(0, 0).does(x -> x.own(0, 0, 5, 7))
            .commitsRow(0, 5, 1).does(x -> x.receive(0, 1)).commits(49).stateAndLag(0, 2, 50)
            .does(x -> x.goOn(0, true)).stateAndLag(0, 1, 49);
    }

    private static void copiedAtEdges() {
        EdgeRun.range(n -> busyInATransaction("Promise 20: `subscriber`: 0 to 2"), EdgeRun.OUTSIDE,
            0, 2, n -> x -> x.copiedAt(n, 0));
        EdgeRun.range(n -> busyInATransaction("Promise 20: `table`: 0 or 1"), EdgeRun.OUTSIDE, 0, 1,
            n -> x -> x.copiedAt(0, n));
        new EdgeRun("Returns number of the commit, 0 if it was copied ahead of the first one, -1 if "
                + "it is not copied.")
            .copiedAt(0, -1, -1).does(x -> x.subscribe(0, 0)).copiedAt(0, -1, -1)
            .does(x -> x.copy(0, 0)).copiedAt(0, 0, -1).commits(1).copiedAt(0, 0, -1)
            .does(x -> x.copy(0, 1)).copiedAt(0, 0, 1).does(x -> x.receive(0, 1)).copiedAt(0, 0, 1)
            .commits(1).does(x -> x.copy(0, 0)).copiedAt(0, 2, 1).commits(48)
            .does(x -> x.setLimit(50)).does(x -> x.subscribe(0, 0)).does(x -> x.copy(0, 1))
            .copiedAt(0, -1, 50).does(x -> x.drop(0)).copiedAt(0, -1, -1);
        allStopped("Returns number of the commit, 0 if it was copied ahead of the first one, -1 if "
                + "it is not copied.")
            .copiedAt(0, 1, 1).does(x -> x.goOn(0, true)).copiedAt(0, 1, 1).commits(1)
            .does(x -> x.setLimit(0)).stateAndLag(0, 3, 0).copiedAt(0, 1, 1)
            .does(x -> x.subscribe(0, 0)).copiedAt(0, -1, -1);
    }

    private static void seenEdges() {
        EdgeRun.range(n -> busy("Promise 21: `subscriber`: 0 to 2"), EdgeRun.OUTSIDE, 0, 2,
            n -> x -> x.seen(n, 0, 0, 0));
        EdgeRun.range(n -> busy("Promise 21: `table`: 0 or 1"), EdgeRun.OUTSIDE, 0, 1,
            n -> x -> x.seen(0, n, 0, 0));
        EdgeRun.range(n -> busy("Promise 21: `key`: 0 to 11"), EdgeRun.OUTSIDE, 0, 11,
            n -> x -> x.seen(0, 0, n, 0));
        EdgeRun.range(n -> busy("Promise 21: `column`: 0 to 2"), EdgeRun.OUTSIDE, 0, 2,
            n -> x -> x.seen(0, 0, 0, n));
        EdgeRun.range(n -> new EdgeRun("Promise 21: `column`: 0 to 2"), EdgeRun.OUTSIDE, 0, 2,
            n -> x -> x.seen(0, 0, 0, n));
        new EdgeRun("Promise 21: Returns the number, -1 if there is no row.")
            .does(x -> x.setColumns(0, 0, 5)).does(x -> x.put(0, 0, 0, 50, 99))
            .does(x -> x.put(0, 11, 99, 50, 0)).commits(1).does(x -> x.subscribe(2, 0))
            .does(x -> x.copy(2, 0)).due(0, x -> x.seen(2, 0, 0, 0)).due(0, x -> x.seen(2, 0, 0, 1))
            .due(99, x -> x.seen(2, 0, 0, 2)).due(99, x -> x.seen(2, 0, 11, 0))
            .due(0, x -> x.seen(2, 0, 11, 1)).due(0, x -> x.seen(2, 0, 11, 2))
            .due(-1, x -> x.seen(2, 0, 1, 0)).due(-1, x -> x.seen(2, 0, 10, 1))
            .due(-1, x -> x.seen(2, 1, 0, 2)).due(-1, x -> x.seen(1, 0, 0, 0))
            .due(-1, x -> x.seen(0, 0, 11, 2)).does(x -> x.own(2, 0, 0, -1))
            .due(-1, x -> x.seen(2, 0, 0, 0)).due(-1, x -> x.seen(2, 0, 0, 1))
            .due(-1, x -> x.seen(2, 0, 0, 2)).due(99, x -> x.seen(2, 0, 11, 0));
    }

    // ---- promise 22

    private static void isFaithfulRanges() {
        EdgeRun.range(n -> allFollow("Promise 22: `subscriber`: 0 to 2"), EdgeRun.OUTSIDE, 0, 2,
            n -> x -> x.isFaithful(n, 1));
        EdgeRun.range(n -> allFollow("Promise 22: `table`: 0 or 1"), EdgeRun.OUTSIDE, 0, 1,
            n -> x -> x.isFaithful(1, n));
        busyInATransaction("Throws `IllegalStateException` if the state of the subscriber is neither "
                + "1 nor 2, or the table is not copied")
            .due(true, x -> x.isFaithful(0, 0)).due(true, x -> x.isFaithful(0, 1))
            .due(false, x -> x.isFaithful(1, 0)).refused(EdgeRun.NOT_NOW, x -> x.isFaithful(1, 1))
            .refused(EdgeRun.NOT_NOW, x -> x.isFaithful(2, 0))
            .refused(EdgeRun.NOT_NOW, x -> x.isFaithful(2, 1)).does(x -> x.own(1, 0, 5, -1))
            .due(true, x -> x.isFaithful(1, 0)).does(x -> x.setColumns(0, 0, 7))
            .refused(EdgeRun.NOT_NOW, x -> x.isFaithful(0, 0)).due(true, x -> x.isFaithful(0, 1))
            .does(x -> x.drop(0)).refused(EdgeRun.NOT_NOW, x -> x.isFaithful(0, 1));
    }

    /** One row too much, one too few, and each column one more and one less. */
    private static void isFaithfulToTheRow() {
        String sentence = "Returns true if all rows and numbers are the same.";
        for (int key : new int[] {0, 5, 11}) {
            new EdgeRun(sentence).commitsRow(0, key, 50).follows(0, 0)
                .due(true, x -> x.isFaithful(0, 0)).does(x -> x.own(0, 0, key, 49))
                .due(false, x -> x.isFaithful(0, 0)).does(x -> x.own(0, 0, key, 51))
                .due(false, x -> x.isFaithful(0, 0)).does(x -> x.own(0, 0, key, -1))
                .due(false, x -> x.isFaithful(0, 0)).does(x -> x.own(0, 0, key, 50))
                .due(true, x -> x.isFaithful(0, 0)).due(true, x -> x.isFaithful(0, 1))
                .does(x -> x.own(0, 1, key, 0)).due(false, x -> x.isFaithful(0, 1))
                .due(true, x -> x.isFaithful(0, 0)).does(x -> x.own(0, 1, key, -1))
                .due(true, x -> x.isFaithful(0, 1));
        }
        for (int i = 0; i < 3; i++) {
            int column = i;
            int[] row = {50, 50, 50};
            row[column] = 51;
            new EdgeRun(sentence).does(x -> x.put(0, 6, row[0], row[1], row[2])).commits(1)
                .follows(0, 0)
                .due(true, x -> x.isFaithful(0, 0)).does(x -> x.own(0, 0, 6, 50))
                .due(false, x -> x.isFaithful(0, 0))
                .does(x -> x.setColumns(0, 0, 7 - (1 << column)))
                .does(x -> x.copy(0, 0)).due(true, x -> x.isFaithful(0, 0))
                .does(x -> x.own(0, 0, 6, 50)).due(false, x -> x.isFaithful(0, 0));
        }
        new EdgeRun(sentence).does(x -> x.setColumns(0, 0, 0))
            .does(x -> x.setCondition(0, 0, 0, 1, 50))
            .puts(0, 6, 49).puts(0, 7, 50).commits(1).follows(0, 0)
            .due(true, x -> x.isFaithful(0, 0)).does(x -> x.own(0, 0, 6, 0))
            .due(true, x -> x.isFaithful(0, 0)).does(x -> x.own(0, 0, 7, 0))
            .due(false, x -> x.isFaithful(0, 0));
    }

    /** Copied as of the slot, one commit later, two later, and with a slot that passes it. */
    private static void isFaithfulAsOfTheLater() {
        String sentence = "Tells whether a table of a subscriber is what the publication chooses of a "
            + "full copy of the publisher as of one commit: that of its slot, or that as of which the "
            + "table was copied, if that is later.";
        new EdgeRun(sentence).follows(0, 0).commitsRow(0, 0, 1).commitsRow(0, 0, 2)
            .does(x -> x.copy(0, 0)).commitsRow(0, 0, 3).puts(0, 0, 4)
            .due(true, x -> x.isFaithful(0, 0)).does(x -> x.own(0, 0, 0, 1))
            .due(false, x -> x.isFaithful(0, 0)).does(x -> x.own(0, 0, 0, 3))
            .due(false, x -> x.isFaithful(0, 0)).does(x -> x.own(0, 0, 0, 2))
            .does(x -> x.receive(0, 1)).due(true, x -> x.isFaithful(0, 0))
            .does(x -> x.receive(0, 1)).due(true, x -> x.isFaithful(0, 0))
            .does(x -> x.own(0, 0, 0, 3)).due(false, x -> x.isFaithful(0, 0))
            .does(x -> x.receive(0, 1)).due(true, x -> x.isFaithful(0, 0))
            .does(x -> x.own(0, 0, 0, 2)).due(false, x -> x.isFaithful(0, 0));
        new EdgeRun(sentence).follows(0, 0).commitsRow(0, 0, 1).due(true, x -> x.isFaithful(0, 0))
            .does(x -> x.own(0, 0, 0, 1)).due(false, x -> x.isFaithful(0, 0))
            .due(0, x -> x.receive(0, 1)).due(false, x -> x.isFaithful(0, 0))
            .does(x -> x.goOn(0, true)).due(true, x -> x.isFaithful(0, 0));
        new EdgeRun(sentence).does(x -> x.setLimit(50)).follows(0, 0).commits(49)
            .commitsRow(0, 11, 1)
            .due(49, x -> x.receive(0, 49)).due(true, x -> x.isFaithful(0, 0))
            .due(1, x -> x.receive(0, 1)).due(true, x -> x.isFaithful(0, 0))
            .does(x -> x.own(0, 0, 11, -1)).due(false, x -> x.isFaithful(0, 0))
            .due(1, x -> x.copy(0, 0)).due(true, x -> x.isFaithful(0, 0));
    }

    // ---- exceptions

    private static void whichExceptionGoesFirst() {
        EdgeRun run = busyInATransaction(ORDER);
        for (int bad : new int[] {-1, 100, Integer.MIN_VALUE, Integer.MAX_VALUE}) {
            run.refused(EdgeRun.OUTSIDE, x -> x.put(2, 0, bad, 1, 1))
                .refused(EdgeRun.OUTSIDE, x -> x.put(0, 12, 1, bad, 1))
                .refused(EdgeRun.OUTSIDE, x -> x.put(-1, 0, 1, 1, bad))
                .refused(EdgeRun.OUTSIDE, x -> x.setCondition(3, 0, 0, 0, bad))
                .refused(EdgeRun.OUTSIDE, x -> x.setCondition(0, 2, 0, 0, bad))
                .refused(EdgeRun.OUTSIDE, x -> x.setCondition(0, 0, 3, 0, bad))
                .refused(EdgeRun.OUTSIDE, x -> x.setCondition(3, 0, 0, bad, 0))
                .refused(EdgeRun.OUTSIDE, x -> x.setCondition(0, 2, 0, bad, 0))
                .refused(EdgeRun.OUTSIDE, x -> x.setCondition(0, 0, 3, bad, 0))
                .refused(EdgeRun.OUTSIDE, x -> x.setColumns(3, 0, bad))
                .refused(EdgeRun.OUTSIDE, x -> x.setColumns(0, 2, bad))
                .refused(EdgeRun.OUTSIDE, x -> x.receive(3, bad));
        }
        for (int bad : new int[] {-2, 100, Integer.MIN_VALUE, Integer.MAX_VALUE}) {
            run.refused(EdgeRun.OUTSIDE, x -> x.own(3, 0, 0, bad))
                .refused(EdgeRun.OUTSIDE, x -> x.own(0, 2, 0, bad))
                .refused(EdgeRun.OUTSIDE, x -> x.own(0, 0, 12, bad));
        }
    }

    private static void whichGoesFirstOfAFullTransaction() {
        full(ORDER).fills(1, 3).refused(EdgeRun.OUTSIDE, x -> x.put(2, 0, 1, 1, 1))
            .refused(EdgeRun.OUTSIDE, x -> x.put(0, -1, 1, 1, 1))
            .refused(EdgeRun.OUTSIDE, x -> x.put(0, 12, 100, 100, 100))
            .refused(EdgeRun.ARGUMENT, x -> x.put(0, 0, 100, 1, 1))
            .refused(EdgeRun.ARGUMENT, x -> x.put(0, 0, 1, -1, 1))
            .refused(EdgeRun.ARGUMENT, x -> x.put(0, 0, 1, 1, 100))
            .refused(EdgeRun.NOT_NOW, x -> x.put(0, 0, 1, 1, 1))
            .refused(EdgeRun.OUTSIDE, EdgeRun.take(-1, 0))
            .refused(EdgeRun.OUTSIDE, EdgeRun.take(0, 12))
            .refused(EdgeRun.NOT_NOW, EdgeRun.take(0, 0))
            .refused(EdgeRun.OUTSIDE, x -> x.truncate(2))
            .refused(EdgeRun.NOT_NOW, x -> x.truncate(1)).due(12, RowReplicator::rollBack);
        new EdgeRun(ORDER).refused(EdgeRun.OUTSIDE, EdgeRun.take(2, 0))
            .refused(EdgeRun.OUTSIDE, EdgeRun.take(0, -1))
            .refused(EdgeRun.NOT_NOW, EdgeRun.take(0, 0));
    }

    private static void whichGoesFirstOfSubscribers() {
        busyInATransaction(ORDER).refused(EdgeRun.OUTSIDE, x -> x.copy(3, 0))
            .refused(EdgeRun.OUTSIDE, x -> x.copy(1, 2))
            .refused(EdgeRun.OUTSIDE, x -> x.copy(0, -1))
            .refused(EdgeRun.OUTSIDE, x -> x.copy(2, 2))
            .refused(EdgeRun.ARGUMENT, x -> x.receive(1, 0))
            .refused(EdgeRun.ARGUMENT, x -> x.receive(2, 51))
            .refused(EdgeRun.NOT_NOW, x -> x.receive(1, 1))
            .refused(EdgeRun.NOT_NOW, x -> x.receive(2, 50))
            .refused(EdgeRun.OUTSIDE, x -> x.isFaithful(2, 2))
            .refused(EdgeRun.OUTSIDE, x -> x.isFaithful(1, -1));
        new EdgeRun(ORDER).refused(EdgeRun.ARGUMENT, x -> x.receive(0, 0))
            .refused(EdgeRun.ARGUMENT, x -> x.receive(0, 51))
            .refused(EdgeRun.NOT_NOW, x -> x.receive(0, 1))
            .refused(EdgeRun.OUTSIDE, x -> x.copy(0, 2)).refused(EdgeRun.NOT_NOW, x -> x.copy(0, 1))
            .refused(EdgeRun.OUTSIDE, x -> x.isFaithful(0, 2))
            .refused(EdgeRun.NOT_NOW, x -> x.isFaithful(0, 1))
            .refused(EdgeRun.OUTSIDE, x -> x.goOn(3, true))
            .refused(EdgeRun.NOT_NOW, x -> x.goOn(0, true));
        new EdgeRun(NOTHING).refused(EdgeRun.NOT_NOW, x -> x.receive(0, 1))
            .refused(EdgeRun.OUTSIDE, x -> x.subscribe(0, 3))
            .refused(EdgeRun.OUTSIDE, x -> x.drop(3))
            .due(0, x -> x.subscribe(0, 0)).due(0, x -> x.copy(0, 0));
    }

    /** The calls at the end of an object's use are answered as those at its beginning. */
    private static void fiveHundredTwelveCalls() {
        EdgeRun run = new EdgeRun("An object is used for at most 512 calls after it has been made")
            .does(x -> x.setLimit(50)).follows(0, 0);
        for (int number = 1; number <= 50; number++) {
            for (int i = 0; i < 9; i++) {
                run.puts(0, i, number);
            }
            run.due(number, RowReplicator::commit);
        }
        run.due(50, x -> x.receive(0, 50)).due(true, x -> x.isFaithful(0, 0))
            .does(x -> x.truncate(0)).due(1, RowReplicator::rollBack)
            .due(0, x -> x.lag(0)).due(50, x -> x.seen(0, 0, 8, 2)).due(50, x -> x.at(0, 8, 2))
            .due(-1, x -> x.seen(0, 0, 9, 0));
    }
}
