/** The edges that the sentences of the document's section 'Terms' name. */
public final class RowReplicatorTermsEdges {
    private static final String LESS = "1: the number in the column is less than the told one";
    private static final String NOT_LESS = "2: it is not less";
    private static final String COUNTED = "Of the changes of the commit those count whose table is "
        + "copied, and copied as of an earlier commit.";
    private static final String ALL_ROWS = "taking all rows of a table away is the same as taking "
        + "each row of it away, by rising keys";
    private static final String SIDES = "A side of it counts if there is a row, and the condition "
        + "lets it. If both count, or the new one alone, the row is put at the subscriber; if the "
        + "old one alone counts, it is taken away there; otherwise nothing is done.";
    private static final String CONFLICT = "It is a conflict if a row is to be put because the new "
        + "side alone counts, and the subscriber has a row with this key, as the changes ahead of it "
        + "in the commit leave its rows.";
    private static final String STOPPED = "Then nothing of the commit is applied, the slot stays, "
        + "and the state is 2.";
    private static final String GOES_ON = "A subscriber with the state 2 can go on, so that it tries "
        + "the commit again, or skip the commit, by which its slot is at it without anything being "
        + "applied.";
    private static final String LIMIT = "The log keeps at most so many commits behind the slot of "
        + "each subscriber with the state 1 or 2 as the limit tells, 20 at first.";
    private static final String CUT = "When a commit makes them more, or the limit is changed, each "
        + "subscriber for which they are more is cut: its state is 3, and it takes nothing any more; "
        + "it can subscribe anew.";
    private static final String SET = "When a condition or list of a table of a publication is set, "
        + "also to what it was, that table is not copied any more for all subscribers to it, cut "
        + "ones, too; their rows stay until it is copied again.";

    public static void main(String[] args) {
        changesAreSeenAtOnce();
        changesAreUndone();
        changesRolledBackAreInNoCommit();
        aChangeBeginsATransaction();
        commitsAreNumberedFromOne();
        atMostFiftyCommits();
        atMostTwelveChanges();
        twelveChangesOfEachKind();
        aChangePutsInPlace();
        aChangeTakesAllRows();
        relationEveryRow();
        relationsByCopy();
        relationsByTheLog();
        relationsAtTheOldSide();
        eachTableHasItsCondition();
        publicationsAtFirst();
        subscribersAtFirst();
        subscribing();
        copyingTakesAllRowsAway();
        copyingIsAsOfTheLastCommit();
        copyingChoosesRowsAndColumns();
        takingTheCommitBehindTheSlot();
        changesOfTablesThatAreNotCopied();
        changesCopiedAsOfEarlierCommits();
        changesOfARowInOneCommit();
        takingAllRowsAway();
        takingAllRowsAwayOfTheChosen();
        sidesThatCount();
        listsOfColumns();
        conflictsByTheChangesAhead();
        noConflictByTheChangesAhead();
        conflictsOfTablesThatCount();
        nothingOfAConflictIsApplied();
        goingOnAndSkipping();
        limitAtFirst();
        limitByCommit();
        limitByState();
        limitChanged();
        cutOnesTakeNothing();
        settingEndsCopies();
        settingEndsCopiesOfAllSubscribers();
        EdgeRun.end("the edges of the terms");
    }

    /** Publication 0 chooses the rows of table 0 below 50 in column 0. */
    private static EdgeRun chosen(String sentence) {
        return new EdgeRun(sentence).does(x -> x.setCondition(0, 0, 0, 1, 50));
    }

    // ---- the log

    private static void changesAreSeenAtOnce() {
        new EdgeRun("its changes are seen at the publisher at once")
            .puts(0, 0, 0).publisherHas(0, "0:0,0,0").publisherHas(1, "")
            .does(x -> x.put(0, 0, 99, 98, 97)).publisherHas(0, "0:99,98,97")
            .puts(1, 11, 99).publisherHas(1, "11:99,99,99")
            .takes(0, 0).publisherHas(0, "").publisherHas(1, "11:99,99,99")
            .does(x -> x.truncate(1)).publisherHas(1, "")
            .puts(1, 11, 1).publisherHas(1, "11:1,1,1").publisherHas(0, "");
    }

    private static void changesAreUndone() {
        new EdgeRun("and are undone if it is rolled back")
            .puts(0, 1, 10).puts(1, 11, 20).commits(1)
            .puts(0, 1, 30).puts(0, 1, 31).puts(0, 0, 1)
            .takes(1, 11).puts(1, 11, 21).does(x -> x.truncate(0))
            .puts(0, 11, 1)
            .due(7, RowReplicator::rollBack)
            .publisherHas(0, "1:10,10,10").publisherHas(1, "11:20,20,20")
            .due(0, RowReplicator::rollBack)
            .publisherHas(0, "1:10,10,10").publisherHas(1, "11:20,20,20");
        new EdgeRun("and are undone if it is rolled back")
            .puts(0, 0, 1).puts(1, 11, 1)
            .due(2, RowReplicator::rollBack).publisherHas(0, "").publisherHas(1, "")
            .due(true, EdgeRun.put(0, 0, 1));
    }

    private static void changesRolledBackAreInNoCommit() {
        new EdgeRun("and are undone if it is rolled back").follows(0, 0)
            .puts(0, 1, 1).puts(0, 2, 1).does(RowReplicator::rollBack)
            .puts(0, 3, 1).commits(1)
            .due(1, x -> x.receive(0, 50)).subscriberHas(0, 0, "3:1,1,1")
            .takes(0, 3).does(RowReplicator::rollBack).commits(1)
            .due(1, x -> x.receive(0, 50)).subscriberHas(0, 0, "3:1,1,1")
            .due(true, x -> x.isFaithful(0, 0));
    }

    private static void aChangeBeginsATransaction() {
        String sentence = "a change begins a transaction if none is open";
        EdgeRun.Call copy = x -> x.copy(0, 1);
        new EdgeRun(sentence).does(x -> x.subscribe(0, 0)).does(copy)
            .puts(0, 0, 1).refused(EdgeRun.NOT_NOW, copy)
            .commits(1).does(copy)
            .takes(0, 0).refused(EdgeRun.NOT_NOW, copy)
            .does(RowReplicator::rollBack).does(copy)
            .does(x -> x.truncate(0)).refused(EdgeRun.NOT_NOW, copy)
            .does(RowReplicator::rollBack).does(copy)
            .does(x -> x.truncate(1)).refused(EdgeRun.NOT_NOW, copy)
            .commits(1).does(copy);
        new EdgeRun(sentence).does(x -> x.subscribe(0, 0))
            .refused(EdgeRun.ARGUMENT, x -> x.put(0, 0, 1, 1, 100))
            .refused(EdgeRun.NOT_NOW, EdgeRun.take(0, 0))
            .refused(EdgeRun.OUTSIDE, x -> x.truncate(2))
            .does(copy)
            .puts(0, 0, 1).puts(0, 1, 1).due(2, RowReplicator::rollBack)
            .puts(0, 0, 1).puts(0, 1, 1).due(1, RowReplicator::commit);
    }

    private static void commitsAreNumberedFromOne() {
        new EdgeRun("When it is committed, it goes into the log as a commit, numbered from 1 on, even "
                + "if it has no changes.")
            .follows(0, 0).due(0, RowReplicator::commits)
            .due(1, RowReplicator::commit).due(1, RowReplicator::commits).stateAndLag(0, 1, 1)
            .puts(0, 0, 1).due(1, RowReplicator::commits)
            .due(2, RowReplicator::commit).due(2, RowReplicator::commits).stateAndLag(0, 1, 2)
            .puts(0, 1, 1).does(RowReplicator::rollBack)
            .due(2, RowReplicator::commits).due(3, RowReplicator::commit)
            .due(3, RowReplicator::commits).stateAndLag(0, 1, 3)
            .due(1, x -> x.receive(0, 1)).subscriberHas(0, 0, "")
            .due(1, x -> x.receive(0, 1)).subscriberHas(0, 0, "0:1,1,1")
            .due(1, x -> x.receive(0, 1)).subscriberHas(0, 0, "0:1,1,1")
            .due(0, x -> x.receive(0, 1));
    }

    private static void atMostFiftyCommits() {
        String sentence = "There are at most 50 commits";
        EdgeRun run = new EdgeRun(sentence).does(x -> x.setLimit(50)).follows(0, 0);
        for (int number = 1; number <= 50; number++) {
            run.due(number, RowReplicator::commit);
        }
        run.refused(EdgeRun.NOT_NOW, RowReplicator::commit)
            .due(50, RowReplicator::commits).stateAndLag(0, 1, 50)
            .puts(0, 0, 1)
            .refused(EdgeRun.NOT_NOW, RowReplicator::commit)
            .due(50, RowReplicator::commits).publisherHas(0, "0:1,1,1")
            .refused(EdgeRun.NOT_NOW, x -> x.copy(0, 0))
            .due(50, x -> x.receive(0, 50)).due(0, x -> x.receive(0, 50))
            .subscriberHas(0, 0, "").stateAndLag(0, 1, 0)
            .due(1, RowReplicator::rollBack).publisherHas(0, "")
            .refused(EdgeRun.NOT_NOW, RowReplicator::commit)
            .due(0, x -> x.copy(0, 0)).copiedAt(0, 50, 0);
        new EdgeRun(sentence).does(x -> x.setLimit(50)).follows(0, 0).commits(48)
            .puts(0, 0, 1).due(49, RowReplicator::commit)
            .puts(0, 11, 2).due(50, RowReplicator::commit)
            .fills(0, 3).refused(EdgeRun.NOT_NOW, RowReplicator::commit)
            .refused(EdgeRun.NOT_NOW, EdgeRun.put(0, 0, 4))
            .due(12, RowReplicator::rollBack).publisherHas(0, "0:1,1,1 11:2,2,2")
            .due(49, x -> x.receive(0, 49)).subscriberHas(0, 0, "0:1,1,1")
            .due(1, x -> x.receive(0, 50)).subscriberHas(0, 0, "0:1,1,1 11:2,2,2");
    }

    private static void atMostTwelveChanges() {
        String sentence = "and at most 12 changes in a transaction";
        new EdgeRun(sentence).follows(0, 0).fills(1, 7)
            .refused(EdgeRun.NOT_NOW, EdgeRun.put(1, 0, 8))
            .refused(EdgeRun.NOT_NOW, EdgeRun.take(1, 11))
            .refused(EdgeRun.NOT_NOW, x -> x.truncate(1))
            .refused(EdgeRun.NOT_NOW, x -> x.truncate(0))
            .due(12, RowReplicator::rollBack)
            .publisherHas(1, "").fills(1, 8).refused(EdgeRun.NOT_NOW, EdgeRun.put(1, 0, 9))
            .due(1, RowReplicator::commit).fills(1, 9)
            .refused(EdgeRun.NOT_NOW, EdgeRun.put(0, 0, 9)).due(2, RowReplicator::commit)
            .due(1, x -> x.receive(0, 1))
            .subscriberHas(0, 1, "0:8,8,8 1:8,8,8 2:8,8,8 3:8,8,8 4:8,8,8 5:8,8,8 6:8,8,8 "
                + "7:8,8,8 8:8,8,8 9:8,8,8 10:8,8,8 11:8,8,8")
            .due(1, x -> x.receive(0, 1))
            .subscriberHas(0, 1, "0:9,9,9 1:9,9,9 2:9,9,9 3:9,9,9 4:9,9,9 5:9,9,9 6:9,9,9 "
                + "7:9,9,9 8:9,9,9 9:9,9,9 10:9,9,9 11:9,9,9")
            .due(true, x -> x.isFaithful(0, 1));
    }

    /** The 11th and the 12th change may be of any kind, the 13th of none. */
    private static void twelveChangesOfEachKind() {
        EdgeRun.Call[] kinds = {EdgeRun.put(0, 3, 9), EdgeRun.put(0, 5, 9), EdgeRun.take(0, 4),
            x -> x.truncate(0), x -> x.truncate(1)};
        for (EdgeRun.Call kind : kinds) {
            changesAndOneMore(0, kind).due(1, RowReplicator::rollBack);
            changesAndOneMore(10, kind).puts(0, 3, 9).due(12, RowReplicator::rollBack);
            changesAndOneMore(11, kind).refused(EdgeRun.NOT_NOW, EdgeRun.put(0, 3, 8))
                .refused(EdgeRun.NOT_NOW, EdgeRun.put(0, 5, 8))
                .refused(EdgeRun.NOT_NOW, EdgeRun.take(0, 5))
                .refused(EdgeRun.NOT_NOW, EdgeRun.take(0, 9))
                .refused(EdgeRun.NOT_NOW, x -> x.truncate(0))
                .refused(EdgeRun.NOT_NOW, x -> x.truncate(1))
                .due(12, RowReplicator::rollBack).puts(0, 3, 8);
        }
    }

    private static EdgeRun changesAndOneMore(int changes, EdgeRun.Call kind) {
        EdgeRun run = new EdgeRun("and at most 12 changes in a transaction")
            .puts(0, 4, 1).puts(0, 5, 1).commits(1);
        for (int key = 0; key < changes; key++) {
            run.puts(1, key, 1);
        }
        return run.does(kind);
    }

    private static void aChangePutsInPlace() {
        new EdgeRun("each change puts a row (in place of the one with its key)").follows(0, 0)
            .due(true, EdgeRun.put(0, 3, 1)).due(false, x -> x.put(0, 3, 7, 8, 9))
            .due(true, EdgeRun.put(0, 2, 2)).due(true, EdgeRun.put(0, 4, 4))
            .publisherHas(0, "2:2,2,2 3:7,8,9 4:4,4,4").publisherHas(1, "").commits(1)
            .due(1, x -> x.receive(0, 1)).subscriberHas(0, 0, "2:2,2,2 3:7,8,9 4:4,4,4")
            .due(false, EdgeRun.put(0, 3, 0)).due(1, RowReplicator::rollBack);
    }

    private static void aChangeTakesAllRows() {
        String sentence = "or takes all rows of a table away";
        new EdgeRun(sentence).follows(0, 0)
            .due(0, x -> x.truncate(1)).due(1, RowReplicator::rollBack)
            .commitsRow(1, 11, 1).puts(0, 0, 5)
            .due(1, x -> x.truncate(1)).publisherHas(1, "").publisherHas(0, "0:5,5,5")
            .due(0, x -> x.truncate(1)).due(3, RowReplicator::rollBack)
            .publisherHas(1, "11:1,1,1").publisherHas(0, "")
            .fills(1, 6).commits(1).due(12, x -> x.truncate(1)).due(1, RowReplicator::rollBack)
            .takes(1, 0).due(11, x -> x.truncate(1)).publisherHas(1, "").commits(1)
            .due(3, x -> x.receive(0, 50)).subscriberHas(0, 1, "");
    }

    // ---- publications

    private static void relationEveryRow() {
        for (int number : new int[] {0, 50, 99}) {
            new EdgeRun("relation 0: every row").does(x -> x.setCondition(1, 1, 2, 0, number))
                .puts(1, 0, 0).puts(1, 1, 49).puts(1, 2, 50)
                .puts(1, 3, 51).puts(1, 11, 99).commits(1)
                .does(x -> x.subscribe(0, 1)).due(5, x -> x.copy(0, 1))
                .puts(1, 10, 0).puts(1, 0, 99).puts(1, 11, 0)
                .commits(1).due(1, x -> x.receive(0, 1))
                .subscriberHas(0, 1, "0:99,99,99 1:49,49,49 2:50,50,50 3:51,51,51 10:0,0,0 11:0,0,0")
                .due(true, x -> x.isFaithful(0, 1));
        }
    }

    /** A row whose other columns would have the other answer. */
    private static int[] row(int column, int number, boolean isLess) {
        int others = isLess ? 99 : 0;
        int[] row = {others, others, others};
        row[column] = number;
        return row;
    }

    private static void relationsByCopy() {
        for (int number : new int[] {0, 1, 2, 49, 50, 51, 98, 99}) {
            for (int inRow = Math.max(0, number - 1); inRow <= Math.min(99, number + 1); inRow++) {
                for (int column = 0; column < 3; column++) {
                    relationsByCopy(column, number, inRow);
                }
            }
        }
    }

    private static void relationsByCopy(int column, int number, int inRow) {
        boolean isLess = inRow < number;
        int[] row = row(column, inRow, isLess);
        String rows = "7:" + row[0] + "," + row[1] + "," + row[2];
        for (int relation = 1; relation <= 2; relation++) {
            int told = relation;
            boolean lets = (relation == 1) == isLess;
            new EdgeRun(relation == 1 ? LESS : NOT_LESS)
                .does(x -> x.setCondition(2, 0, column, told, number))
                .does(x -> x.put(0, 7, row[0], row[1], row[2])).commits(1)
                .does(x -> x.subscribe(1, 2)).due(lets ? 1 : 0, x -> x.copy(1, 0))
                .subscriberHas(1, 0, lets ? rows : "").due(true, x -> x.isFaithful(1, 0))
                .does(x -> x.own(1, 0, 7, lets ? -1 : 5)).due(false, x -> x.isFaithful(1, 0));
        }
    }

    private static void relationsByTheLog() {
        for (int number : new int[] {0, 1, 50, 98, 99}) {
            for (int inRow = Math.max(0, number - 1); inRow <= Math.min(99, number + 1); inRow++) {
                for (int column = 0; column < 3; column++) {
                    relationsByTheLog(column, number, inRow);
                }
            }
        }
    }

    private static void relationsByTheLog(int column, int number, int inRow) {
        boolean isLess = inRow < number;
        int[] row = row(column, inRow, isLess);
        String rows = "7:" + row[0] + "," + row[1] + "," + row[2];
        for (int relation = 1; relation <= 2; relation++) {
            int told = relation;
            boolean lets = (relation == 1) == isLess;
            new EdgeRun(relation == 1 ? LESS : NOT_LESS)
                .does(x -> x.setCondition(0, 0, column, told, number)).follows(0, 0)
                .does(x -> x.put(0, 7, row[0], row[1], row[2])).commits(1)
                .due(1, x -> x.receive(0, 1)).subscriberHas(0, 0, lets ? rows : "")
                .due(true, x -> x.isFaithful(0, 0));
        }
    }

    /** A row that moves over the edge, to it, and stays at either side of it. */
    private static void relationsAtTheOldSide() {
        new EdgeRun(LESS).does(x -> x.setCondition(0, 0, 1, 1, 50)).follows(0, 0)
            .commitsRow(0, 2, 49).commitsRow(0, 2, 48).commitsRow(0, 2, 50).commitsRow(0, 2, 51)
            .commitsRow(0, 2, 49)
            .does(x -> x.receive(0, 1)).subscriberHas(0, 0, "2:49,49,49")
            .does(x -> x.receive(0, 1)).subscriberHas(0, 0, "2:48,48,48")
            .does(x -> x.receive(0, 1)).subscriberHas(0, 0, "")
            .does(x -> x.receive(0, 1)).subscriberHas(0, 0, "")
            .does(x -> x.receive(0, 1)).subscriberHas(0, 0, "2:49,49,49").stateAndLag(0, 1, 0);
        new EdgeRun(NOT_LESS).does(x -> x.setCondition(0, 0, 1, 2, 50)).follows(0, 0)
            .commitsRow(0, 2, 50).commitsRow(0, 2, 51).commitsRow(0, 2, 49).commitsRow(0, 2, 48)
            .commitsRow(0, 2, 50)
            .does(x -> x.receive(0, 1)).subscriberHas(0, 0, "2:50,50,50")
            .does(x -> x.receive(0, 1)).subscriberHas(0, 0, "2:51,51,51")
            .does(x -> x.receive(0, 1)).subscriberHas(0, 0, "")
            .does(x -> x.receive(0, 1)).subscriberHas(0, 0, "")
            .does(x -> x.receive(0, 1)).subscriberHas(0, 0, "2:50,50,50").stateAndLag(0, 1, 0);
    }

    private static void eachTableHasItsCondition() {
        new EdgeRun("A publication has for each table a condition, which is a column, a relation and "
                + "a number")
            .does(x -> x.setCondition(0, 0, 0, 1, 50)).does(x -> x.setCondition(0, 1, 2, 2, 60))
            .does(x -> x.setColumns(0, 0, 1)).does(x -> x.setColumns(0, 1, 6))
            .does(x -> x.setCondition(1, 0, 1, 1, 10)).does(x -> x.setColumns(1, 0, 2))
            .does(x -> x.put(0, 0, 49, 10, 60)).does(x -> x.put(0, 1, 50, 9, 59))
            .does(x -> x.put(1, 0, 49, 10, 60)).does(x -> x.put(1, 1, 50, 9, 59)).commits(1)
            .follows(0, 0).follows(1, 1).follows(2, 2)
            .subscriberHas(0, 0, "0:49,0,0").subscriberHas(0, 1, "0:0,10,60")
            .subscriberHas(1, 0, "1:0,9,0").subscriberHas(1, 1, "0:49,10,60 1:50,9,59")
            .subscriberHas(2, 0, "0:49,10,60 1:50,9,59")
            .subscriberHas(2, 1, "0:49,10,60 1:50,9,59");
    }

    private static void publicationsAtFirst() {
        String sentence = "At first the relation is 0, and all columns are in the list.";
        for (int i = 0; i < 6; i++) {
            int publication = i / 2;
            int table = i % 2;
            new EdgeRun(sentence).puts(table, 0, 0).puts(table, 5, 99)
                .does(x -> x.put(table, 11, 97, 98, 99)).commits(1)
                .does(x -> x.subscribe(0, publication)).due(3, x -> x.copy(0, table))
                .subscriberHas(0, table, "0:0,0,0 5:99,99,99 11:97,98,99");
        }
    }

    // ---- subscribers

    private static void subscribersAtFirst() {
        String sentence = "A subscriber has no publication at first; its state is 0.";
        for (int i = 0; i < 3; i++) {
            int subscriber = i;
            new EdgeRun(sentence).commitsRow(0, 0, 1).commits(20).stateAndLag(subscriber, 0, 0)
                .copiedAt(subscriber, -1, -1)
                .refused(EdgeRun.NOT_NOW, x -> x.copy(subscriber, 0))
                .refused(EdgeRun.NOT_NOW, x -> x.receive(subscriber, 1))
                .refused(EdgeRun.NOT_NOW, x -> x.goOn(subscriber, false))
                .refused(EdgeRun.NOT_NOW, x -> x.isFaithful(subscriber, 0))
                .due(0, x -> x.setCondition(0, 0, 0, 0, 0)).due(0, x -> x.setLimit(0))
                .due(0, x -> x.subscribe(subscriber, 0)).stateAndLag(subscriber, 1, 0);
        }
    }

    private static void subscribing() {
        String sentence = "When it subscribes to one, its state is 1, its slot is at the last commit, "
            + "and none of its tables is copied.";
        new EdgeRun(sentence).does(x -> x.subscribe(0, 0)).stateAndLag(0, 1, 0).copiedAt(0, -1, -1)
            .commits(1).stateAndLag(0, 1, 1).puts(0, 0, 1)
            .does(x -> x.subscribe(1, 0)).stateAndLag(1, 1, 0)
            .commits(1).stateAndLag(0, 1, 2).stateAndLag(1, 1, 1)
            .does(x -> x.subscribe(2, 0)).stateAndLag(2, 1, 0).copiedAt(2, -1, -1)
            .due(2, x -> x.receive(0, 50)).subscriberHas(0, 0, "")
            .due(1, x -> x.receive(1, 50)).subscriberHas(1, 0, "")
            .due(0, x -> x.receive(2, 50)).due(1, x -> x.copy(2, 0)).copiedAt(2, 2, -1);
        new EdgeRun(sentence).follows(0, 0).commits(2).stateAndLag(0, 1, 2).copiedAt(0, 0, 0)
            .due(1, x -> x.subscribe(0, 0)).stateAndLag(0, 1, 0).copiedAt(0, -1, -1)
            .follows(0, 0).copiedAt(0, 2, 2).does(x -> x.own(0, 1, 0, 1)).commitsRow(1, 0, 2)
            .due(0, x -> x.receive(0, 1)).stateAndLag(0, 2, 1)
            .due(2, x -> x.subscribe(0, 1)).stateAndLag(0, 1, 0).copiedAt(0, -1, -1)
            .follows(0, 1).commits(1).due(1, x -> x.setLimit(0)).stateAndLag(0, 3, 0)
            .due(3, x -> x.subscribe(0, 1)).stateAndLag(0, 1, 0).copiedAt(0, -1, -1);
    }

    private static void copyingTakesAllRowsAway() {
        new EdgeRun("all rows of the subscriber in that table are gone")
            .puts(0, 5, 1).puts(1, 6, 2).commits(1)
            .does(x -> x.subscribe(0, 0))
            .does(x -> x.own(0, 0, 0, 70)).does(x -> x.own(0, 0, 5, 71))
            .does(x -> x.own(0, 0, 11, 72))
            .does(x -> x.own(0, 1, 0, 73)).does(x -> x.own(0, 1, 11, 74))
            .does(x -> x.own(1, 0, 0, 75))
            .due(1, x -> x.copy(0, 0)).subscriberHas(0, 0, "5:1,1,1")
            .subscriberHas(0, 1, "0:73,73,73 11:74,74,74").subscriberHas(1, 0, "0:75,75,75")
            .due(1, x -> x.copy(0, 1)).subscriberHas(0, 1, "6:2,2,2")
            .takes(0, 5).commits(1).due(0, x -> x.copy(0, 0)).subscriberHas(0, 0, "");
    }

    private static void copyingIsAsOfTheLastCommit() {
        String sentence = "it gets all rows of the publisher, as of the last commit, which the "
            + "condition lets, with the numbers of the columns in the list, and 0 in the others; the "
            + "copy is as of this commit";
        new EdgeRun(sentence).does(x -> x.subscribe(0, 0)).due(0, x -> x.copy(0, 0))
            .copiedAt(0, 0, -1).commitsRow(0, 0, 1).due(1, x -> x.copy(0, 0)).copiedAt(0, 1, -1)
            .stateAndLag(0, 1, 1).commitsRow(0, 11, 2).due(2, x -> x.copy(0, 0)).copiedAt(0, 2, -1)
            .due(0, x -> x.copy(0, 1)).copiedAt(0, 2, 2).stateAndLag(0, 1, 2)
            .puts(0, 5, 5).refused(EdgeRun.NOT_NOW, x -> x.copy(0, 0))
            .does(RowReplicator::rollBack).due(2, x -> x.copy(0, 0))
            .subscriberHas(0, 0, "0:1,1,1 11:2,2,2").copiedAt(0, 2, 2);
        new EdgeRun(sentence).does(x -> x.subscribe(0, 0)).fills(1, 3).commits(1)
            .due(12, x -> x.copy(0, 1)).takes(1, 11).commits(1)
            .due(11, x -> x.copy(0, 1)).copiedAt(0, -1, 2);
    }

    private static void copyingChoosesRowsAndColumns() {
        String sentence = "it gets all rows of the publisher, as of the last commit, which the "
            + "condition lets, with the numbers of the columns in the list, and 0 in the others; the "
            + "copy is as of this commit";
        chosen(sentence).does(x -> x.setColumns(0, 0, 6))
            .does(x -> x.put(0, 0, 49, 1, 2)).does(x -> x.put(0, 1, 50, 3, 4))
            .does(x -> x.put(0, 10, 51, 5, 6)).does(x -> x.put(0, 11, 0, 99, 0)).commits(1)
            .does(x -> x.subscribe(0, 0)).due(2, x -> x.copy(0, 0))
            .subscriberHas(0, 0, "0:0,1,2 11:0,99,0");
    }

    private static void takingTheCommitBehindTheSlot() {
        new EdgeRun("A subscriber with the state 1 takes commits: the one behind its slot is applied "
                + "to it, and its slot is at that commit then.")
            .follows(0, 0).commitsRow(0, 0, 1).follows(1, 0).commitsRow(0, 0, 2).commitsRow(0, 0, 3)
            .due(1, x -> x.receive(0, 1)).subscriberHas(0, 0, "0:1,1,1").stateAndLag(0, 1, 2)
            .due(1, x -> x.receive(1, 1)).subscriberHas(1, 0, "0:2,2,2").stateAndLag(1, 1, 1)
            .due(1, x -> x.receive(0, 1)).subscriberHas(0, 0, "0:2,2,2").stateAndLag(0, 1, 1)
            .due(1, x -> x.receive(0, 1)).subscriberHas(0, 0, "0:3,3,3").stateAndLag(0, 1, 0)
            .due(0, x -> x.receive(0, 1)).stateAndLag(0, 1, 0).subscriberHas(1, 0, "0:2,2,2");
    }

    private static void changesOfTablesThatAreNotCopied() {
        new EdgeRun(COUNTED).does(x -> x.subscribe(0, 0)).does(x -> x.copy(0, 1))
            .puts(0, 0, 1).puts(1, 0, 2).commits(1)
            .does(x -> x.setColumns(0, 1, 7)).does(x -> x.own(0, 0, 5, 50))
            .puts(0, 5, 1).puts(1, 5, 2).does(x -> x.truncate(0)).commits(1)
            .due(2, x -> x.receive(0, 50)).subscriberHas(0, 0, "5:50,50,50").subscriberHas(0, 1, "")
            .stateAndLag(0, 1, 0);
        new EdgeRun(COUNTED).does(x -> x.subscribe(0, 0)).does(x -> x.copy(0, 1))
            .puts(0, 0, 1).puts(1, 0, 2).commits(1)
            .due(1, x -> x.receive(0, 50)).subscriberHas(0, 0, "").subscriberHas(0, 1, "0:2,2,2");
    }

    /** Copied as of commit 3: what commits 2 and 3 bring does not count, what commit 4 brings does. */
    private static void changesCopiedAsOfEarlierCommits() {
        new EdgeRun(COUNTED).does(x -> x.subscribe(0, 0)).does(x -> x.copy(0, 1))
            .commitsRow(0, 1, 1).commitsRow(0, 2, 2)
            .puts(0, 3, 3).puts(1, 3, 3).commits(1)
            .due(3, x -> x.copy(0, 0)).commitsRow(0, 4, 4)
            .does(x -> x.own(0, 0, 2, -1)).does(x -> x.own(0, 0, 3, 30))
            .due(1, x -> x.receive(0, 1)).subscriberHas(0, 0, "1:1,1,1 3:30,30,30")
            .due(1, x -> x.receive(0, 1)).subscriberHas(0, 0, "1:1,1,1 3:30,30,30")
            .due(1, x -> x.receive(0, 1)).subscriberHas(0, 0, "1:1,1,1 3:30,30,30")
            .subscriberHas(0, 1, "3:3,3,3")
            .due(1, x -> x.receive(0, 1)).subscriberHas(0, 0, "1:1,1,1 3:30,30,30 4:4,4,4");
        new EdgeRun(COUNTED).follows(0, 0).commitsRow(1, 1, 1).copiedAt(0, 0, 0)
            .due(1, x -> x.receive(0, 1)).subscriberHas(0, 1, "1:1,1,1");
        new EdgeRun(COUNTED).does(x -> x.subscribe(0, 0)).fills(0, 1).commits(1)
            .does(x -> x.truncate(0)).commits(1).does(x -> x.copy(0, 0))
            .does(x -> x.own(0, 0, 0, 5)).due(2, x -> x.receive(0, 2))
            .subscriberHas(0, 0, "0:5,5,5");
    }

    private static void changesOfARowInOneCommit() {
        String sentence = "A change of a row has an old row and a new one, each of which may be none";
        chosen(sentence).commitsRow(0, 0, 40).follows(0, 0)
            .puts(0, 0, 60).puts(0, 0, 41).puts(0, 0, 42)
            .puts(0, 1, 60).puts(0, 1, 43).takes(0, 1)
            .puts(0, 2, 44).takes(0, 2).puts(0, 2, 45).commits(1)
            .due(1, x -> x.receive(0, 1)).subscriberHas(0, 0, "0:42,42,42 2:45,45,45")
            .due(true, x -> x.isFaithful(0, 0));
        chosen(sentence).follows(0, 0).commitsRow(0, 0, 60).does(x -> x.own(0, 0, 0, 5))
            .puts(0, 0, 61).takes(0, 0).commits(1)
            .due(2, x -> x.receive(0, 2)).subscriberHas(0, 0, "0:5,5,5");
        chosen(sentence).follows(0, 0).commitsRow(0, 0, 40).commitsRow(0, 0, 60)
            .takes(0, 0).commits(1).commitsRow(0, 0, 41)
            .due(1, x -> x.receive(0, 1)).subscriberHas(0, 0, "0:40,40,40")
            .due(1, x -> x.receive(0, 1)).subscriberHas(0, 0, "").does(x -> x.own(0, 0, 0, 5))
            .due(1, x -> x.receive(0, 1)).subscriberHas(0, 0, "0:5,5,5")
            .due(0, x -> x.receive(0, 1)).stateAndLag(0, 2, 1);
    }

    private static void takingAllRowsAway() {
        new EdgeRun(ALL_ROWS).fills(0, 1).commits(1).fills(1, 2).commits(1)
            .takes(0, 1).takes(0, 10).commits(1).follows(0, 0)
            .does(x -> x.own(0, 0, 1, 5)).does(x -> x.own(0, 0, 10, 6))
            .does(x -> x.own(0, 0, 11, 7))
            .does(x -> x.own(0, 0, 2, -1))
            .does(x -> x.truncate(0)).commits(1).due(1, x -> x.receive(0, 1))
            .subscriberHas(0, 0, "1:5,5,5 10:6,6,6")
            .takes(1, 5).does(x -> x.truncate(1)).puts(1, 0, 3)
            .puts(1, 5, 4).puts(1, 11, 5).commits(1)
            .due(1, x -> x.receive(0, 1)).subscriberHas(0, 1, "0:3,3,3 5:4,4,4 11:5,5,5")
            .subscriberHas(0, 0, "1:5,5,5 10:6,6,6");
        new EdgeRun(ALL_ROWS).follows(0, 0).does(x -> x.own(0, 0, 0, 5)).does(x -> x.truncate(0))
            .does(x -> x.truncate(0)).commits(1).due(1, x -> x.receive(0, 1))
            .subscriberHas(0, 0, "0:5,5,5");
        new EdgeRun(ALL_ROWS).follows(0, 0).puts(0, 0, 1).puts(0, 11, 1)
            .does(x -> x.truncate(0)).puts(0, 11, 2).commits(1)
            .due(1, x -> x.receive(0, 1)).subscriberHas(0, 0, "11:2,2,2");
    }

    private static void takingAllRowsAwayOfTheChosen() {
        chosen(ALL_ROWS).puts(0, 0, 49).puts(0, 1, 50)
            .puts(0, 10, 51).puts(0, 11, 48).commits(1).follows(0, 0)
            .does(x -> x.own(0, 0, 1, 5)).does(x -> x.own(0, 0, 10, 6))
            .does(x -> x.truncate(0)).commits(1).due(1, x -> x.receive(0, 1))
            .subscriberHas(0, 0, "1:5,5,5 10:6,6,6");
    }

    /** Each old row (none, one that is not chosen, a chosen one) with each new one. */
    private static void sidesThatCount() {
        int[] rows = {-1, 50, 49};
        for (int oldRow : rows) {
            for (int newRow : rows) {
                if (oldRow != -1 || newRow != -1) {
                    sidesThatCount(oldRow, newRow, true);
                    sidesThatCount(oldRow, newRow, false);
                }
            }
        }
    }

    private static void sidesThatCount(int oldRow, int newRow, boolean hasRow) {
        boolean oldCounts = oldRow == 49;
        boolean newCounts = newRow == 49;
        boolean isConflict = newCounts && !oldCounts && hasRow;
        String had = hasRow ? "6:7,7,7" : "";
        String left = newCounts ? "6:49,49,3" : oldCounts ? "" : had;
        EdgeRun run = chosen(isConflict ? CONFLICT : SIDES);
        if (oldRow != -1) {
            run.does(x -> x.put(0, 6, oldRow, oldRow, 1));
        }
        run.commits(1).follows(0, 0).does(x -> x.own(0, 0, 6, hasRow ? 7 : -1))
            .does(newRow == -1 ? EdgeRun.take(0, 6) : x -> x.put(0, 6, newRow, newRow, 3))
            .commits(1)
            .due(isConflict ? 0 : 1, x -> x.receive(0, 1))
            .subscriberHas(0, 0, isConflict ? had : left)
            .stateAndLag(0, isConflict ? 2 : 1, isConflict ? 1 : 0);
    }

    private static void listsOfColumns() {
        String sentence = "It is put with the numbers of the columns in the list, and 0 in the "
            + "others.";
        String[] entered = {"0,0,0", "11,0,0", "0,12,0", "11,12,0", "0,0,13", "11,0,13", "0,12,13",
            "11,12,13"};
        String[] changed = {"0,0,0", "21,0,0", "0,22,0", "21,22,0", "0,0,23", "21,0,23", "0,22,23",
            "21,22,23"};
        for (int i = 0; i < 8; i++) {
            int columns = i;
            new EdgeRun(sentence).does(x -> x.setColumns(0, 1, columns)).follows(0, 0)
                .does(x -> x.put(1, 8, 11, 12, 13)).does(x -> x.put(0, 8, 11, 12, 13)).commits(1)
                .due(1, x -> x.receive(0, 1)).subscriberHas(0, 1, "8:" + entered[columns])
                .subscriberHas(0, 0, "8:11,12,13").due(true, x -> x.isFaithful(0, 1))
                .does(x -> x.put(1, 8, 21, 22, 23)).commits(1).due(1, x -> x.receive(0, 1))
                .subscriberHas(0, 1, "8:" + changed[columns]).due(true, x -> x.isFaithful(0, 1))
                .due(1, x -> x.copy(0, 1)).subscriberHas(0, 1, "8:" + changed[columns]);
        }
    }

    private static void conflictsByTheChangesAhead() {
        EdgeRun.Call own = x -> x.own(0, 0, 5, 7);
        EdgeRun.Call receive = x -> x.receive(0, 1);
        EdgeRun[] runs = {
            chosen(CONFLICT).follows(0, 0).does(own).puts(0, 5, 7),
            chosen(CONFLICT).follows(0, 0).does(own).puts(0, 5, 1).takes(0, 5),
            chosen(CONFLICT).follows(0, 0).does(own).does(x -> x.truncate(0)).puts(0, 5, 1),
            chosen(CONFLICT).commitsRow(0, 5, 60).follows(0, 0).does(own)
                .takes(0, 5).puts(0, 5, 1),
            chosen(CONFLICT).commitsRow(0, 5, 60).follows(0, 0).does(own)
                .does(x -> x.truncate(0)).puts(0, 5, 1),
            chosen(CONFLICT).commitsRow(0, 5, 60).follows(0, 0).does(own)
                .puts(0, 5, 61).puts(0, 5, 1),
            chosen(CONFLICT).commitsRow(0, 4, 1).commitsRow(1, 5, 1).follows(0, 0).does(own)
                .takes(0, 4).takes(1, 5).puts(0, 5, 1),
        };
        for (EdgeRun run : runs) {
            run.commits(1).due(0, receive).stateAndLag(0, 2, 1)
                .does(x -> x.own(0, 0, 5, -1)).does(x -> x.goOn(0, false)).due(1, receive)
                .stateAndLag(0, 1, 0);
        }
    }

    private static void noConflictByTheChangesAhead() {
        chosen(CONFLICT).puts(0, 5, 1).puts(0, 6, 1).puts(0, 7, 1)
            .commits(1).follows(0, 0)
            .takes(0, 5).puts(0, 5, 2)
            .puts(0, 6, 60).puts(0, 6, 3)
            .puts(0, 8, 4).takes(0, 8).puts(0, 8, 5)
            .puts(0, 9, 4).puts(0, 9, 50).puts(0, 9, 6).commits(1)
            .due(1, x -> x.receive(0, 1)).stateAndLag(0, 1, 0)
            .subscriberHas(0, 0, "5:2,2,2 6:3,3,3 7:1,1,1 8:5,5,5 9:6,6,6")
            .does(x -> x.truncate(0)).puts(0, 7, 7).commits(1)
            .due(1, x -> x.receive(0, 1)).subscriberHas(0, 0, "7:7,7,7").stateAndLag(0, 1, 0);
        new EdgeRun(CONFLICT).follows(0, 0).commitsRow(0, 5, 1).does(x -> x.receive(0, 1))
            .does(x -> x.own(0, 0, 5, 7)).commitsRow(0, 5, 2).due(1, x -> x.receive(0, 1))
            .subscriberHas(0, 0, "5:2,2,2").does(x -> x.own(0, 0, 4, 7))
            .does(x -> x.own(0, 0, 6, 7))
            .does(x -> x.own(0, 1, 5, 7)).does(x -> x.own(1, 0, 5, 7))
            .takes(0, 5).commits(1).commitsRow(0, 5, 3)
            .due(2, x -> x.receive(0, 2)).stateAndLag(0, 1, 0);
    }

    private static void conflictsOfTablesThatCount() {
        new EdgeRun(CONFLICT).does(x -> x.subscribe(0, 0)).does(x -> x.copy(0, 1))
            .does(x -> x.own(0, 0, 5, 7)).commitsRow(0, 5, 1).due(1, x -> x.receive(0, 1))
            .stateAndLag(0, 1, 0).subscriberHas(0, 0, "5:7,7,7");
        new EdgeRun(CONFLICT).does(x -> x.subscribe(0, 0)).commitsRow(0, 5, 1)
            .does(x -> x.copy(0, 0)).due(1, x -> x.receive(0, 1)).stateAndLag(0, 1, 0);
        new EdgeRun(CONFLICT).does(x -> x.subscribe(0, 0)).does(x -> x.copy(0, 0))
            .does(x -> x.own(0, 0, 11, 0)).commitsRow(0, 11, 0)
            .due(0, x -> x.receive(0, 1)).stateAndLag(0, 2, 1);
        new EdgeRun(CONFLICT).does(x -> x.setColumns(0, 1, 0)).follows(2, 0)
            .does(x -> x.own(2, 1, 0, 0)).commitsRow(1, 0, 99)
            .due(0, x -> x.receive(2, 1)).stateAndLag(2, 2, 1);
    }

    private static void nothingOfAConflictIsApplied() {
        new EdgeRun(STOPPED).puts(0, 0, 1).puts(1, 0, 1).commits(1).follows(0, 0)
            .does(x -> x.own(0, 1, 5, 7)).commitsRow(0, 1, 2)
            .puts(0, 0, 3).puts(0, 2, 3).takes(0, 1)
            .does(x -> x.truncate(1)).puts(1, 4, 3).puts(1, 5, 3)
            .puts(1, 6, 3).commits(1).commitsRow(0, 3, 4)
            .due(1, x -> x.receive(0, 50)).stateAndLag(0, 2, 2).copiedAt(0, 1, 1)
            .subscriberHas(0, 0, "0:1,1,1 1:2,2,2").subscriberHas(0, 1, "0:1,1,1 5:7,7,7")
            .refused(EdgeRun.NOT_NOW, x -> x.receive(0, 1))
            .refused(EdgeRun.NOT_NOW, x -> x.copy(0, 1))
            .due(true, x -> x.isFaithful(0, 0)).due(false, x -> x.isFaithful(0, 1));
        new EdgeRun(STOPPED).follows(0, 0).follows(1, 0).does(x -> x.own(0, 0, 0, 7))
            .commitsRow(0, 0, 1)
            .due(0, x -> x.receive(0, 1)).stateAndLag(0, 2, 1).stateAndLag(1, 1, 1)
            .due(1, x -> x.receive(1, 1)).subscriberHas(1, 0, "0:1,1,1")
            .commits(1).stateAndLag(0, 2, 2);
    }

    private static void goingOnAndSkipping() {
        EdgeRun.Call receive = x -> x.receive(0, 50);
        stopped().due(1, x -> x.goOn(0, false)).stateAndLag(0, 1, 2)
            .subscriberHas(0, 0, "5:7,7,7").subscriberHas(0, 1, "").due(0, receive)
            .stateAndLag(0, 2, 2).due(1, x -> x.goOn(0, false))
            .does(x -> x.own(0, 0, 5, -1)).due(2, receive).stateAndLag(0, 1, 0)
            .subscriberHas(0, 0, "5:1,1,1 6:2,2,2").subscriberHas(0, 1, "3:1,1,1");
        stopped().due(2, x -> x.goOn(0, true)).stateAndLag(0, 1, 1)
            .subscriberHas(0, 0, "5:7,7,7").subscriberHas(0, 1, "").due(1, receive)
            .stateAndLag(0, 1, 0).subscriberHas(0, 0, "5:7,7,7 6:2,2,2").subscriberHas(0, 1, "")
            .due(false, x -> x.isFaithful(0, 1))
            .refused(EdgeRun.NOT_NOW, x -> x.goOn(0, true)).stateAndLag(0, 1, 0);
        EdgeRun last = new EdgeRun(GOES_ON).commits(49).follows(0, 0).does(x -> x.own(0, 0, 5, 7))
            .commitsRow(0, 5, 1).due(0, receive).stateAndLag(0, 2, 1);
        last.due(50, x -> x.goOn(0, true)).stateAndLag(0, 1, 0).due(0, receive)
            .subscriberHas(0, 0, "5:7,7,7");
    }

    /** Slot at 1, stopped by commit 2, which changes both tables, with commit 3 behind it. */
    private static EdgeRun stopped() {
        return new EdgeRun(GOES_ON).commits(1).follows(0, 0).does(x -> x.own(0, 0, 5, 7))
            .puts(1, 3, 1).puts(0, 5, 1).commits(1).commitsRow(0, 6, 2)
            .due(0, x -> x.receive(0, 50)).stateAndLag(0, 2, 2);
    }

    // ---- the limit

    private static void limitAtFirst() {
        new EdgeRun(LIMIT).follows(0, 0).commits(1).follows(1, 0).commits(18).stateAndLag(0, 1, 19)
            .commits(1).stateAndLag(0, 1, 20).refused(EdgeRun.ARGUMENT, x -> x.setLimit(51))
            .refused(EdgeRun.ARGUMENT, x -> x.setLimit(-1))
            .commits(1).stateAndLag(0, 3, 0).stateAndLag(1, 1, 20)
            .due(1, x -> x.receive(1, 1)).commits(1).stateAndLag(1, 1, 20)
            .commits(1).stateAndLag(1, 3, 0);
    }

    private static void limitByCommit() {
        for (int limit : new int[] {0, 1, 2, 19, 21, 48, 49}) {
            EdgeRun run = new EdgeRun(LIMIT).does(x -> x.setLimit(limit)).follows(2, 0);
            for (int lag = 1; lag <= limit; lag++) {
                run.commits(1).stateAndLag(2, 1, lag);
            }
            run.commits(1).stateAndLag(2, 3, 0);
        }
        new EdgeRun(LIMIT).does(x -> x.setLimit(50)).follows(0, 0).commits(50).stateAndLag(0, 1, 50)
            .due(50, x -> x.receive(0, 50));
        new EdgeRun(LIMIT).does(x -> x.setLimit(0)).follows(0, 0).puts(0, 0, 1)
            .stateAndLag(0, 1, 0).does(RowReplicator::rollBack).stateAndLag(0, 1, 0);
    }

    /** All with the same slot: the states 1 and 2 are cut, 3 is not cut anew, and 0 is not cut. */
    private static void limitByState() {
        new EdgeRun(LIMIT).follows(0, 0).follows(1, 0).follows(2, 0).does(x -> x.own(1, 0, 5, 7))
            .commitsRow(0, 5, 1).due(0, x -> x.receive(1, 1)).does(x -> x.drop(2))
            .commits(1).due(0, x -> x.setLimit(2))
            .stateAndLag(0, 1, 2).stateAndLag(1, 2, 2).stateAndLag(2, 0, 0)
            .commits(1).stateAndLag(0, 3, 0).stateAndLag(1, 3, 0).stateAndLag(2, 0, 0)
            .due(0, x -> x.setLimit(0)).commits(1).stateAndLag(0, 3, 0).stateAndLag(2, 0, 0);
    }

    private static void limitChanged() {
        new EdgeRun(CUT).follows(0, 0).commits(1).follows(1, 0).commits(1).follows(2, 0).commits(1)
            .due(0, x -> x.setLimit(4)).due(0, x -> x.setLimit(3))
            .stateAndLag(0, 1, 3).stateAndLag(1, 1, 2).stateAndLag(2, 1, 1)
            .due(1, x -> x.setLimit(2)).stateAndLag(0, 3, 0).stateAndLag(1, 1, 2)
            .due(0, x -> x.setLimit(2)).due(2, x -> x.setLimit(0))
            .stateAndLag(1, 3, 0).stateAndLag(2, 3, 0)
            .due(0, x -> x.setLimit(50)).stateAndLag(0, 3, 0);
        new EdgeRun(CUT).does(x -> x.setLimit(0)).follows(0, 0).does(x -> x.setLimit(1)).commits(1)
            .stateAndLag(0, 1, 1).commits(1).stateAndLag(0, 3, 0);
        new EdgeRun(CUT).follows(0, 0).does(x -> x.setLimit(2)).commits(2)
            .due(1, x -> x.receive(0, 1))
            .due(0, x -> x.setLimit(1)).due(1, x -> x.setLimit(0));
    }

    private static void cutOnesTakeNothing() {
        new EdgeRun(CUT).commitsRow(0, 0, 1).follows(0, 0).follows(1, 0).does(x -> x.setLimit(0))
            .puts(0, 1, 1).commits(1).stateAndLag(0, 3, 0).stateAndLag(1, 3, 0)
            .refused(EdgeRun.NOT_NOW, x -> x.receive(0, 1))
            .refused(EdgeRun.NOT_NOW, x -> x.copy(0, 0))
            .refused(EdgeRun.NOT_NOW, x -> x.goOn(0, false))
            .refused(EdgeRun.NOT_NOW, x -> x.goOn(0, true))
            .refused(EdgeRun.NOT_NOW, x -> x.isFaithful(0, 0)).copiedAt(0, 1, 1)
            .subscriberHas(0, 0, "0:1,1,1").due(0, x -> x.setLimit(50))
            .refused(EdgeRun.NOT_NOW, x -> x.receive(0, 1)).stateAndLag(0, 3, 0)
            .due(3, x -> x.subscribe(0, 2)).stateAndLag(0, 1, 0).subscriberHas(0, 0, "0:1,1,1")
            .due(2, x -> x.copy(0, 0)).commitsRow(0, 2, 2).due(1, x -> x.receive(0, 1))
            .subscriberHas(0, 0, "0:1,1,1 1:1,1,1 2:2,2,2").stateAndLag(1, 3, 0);
    }

    // ---- publications that are set

    private static void settingEndsCopies() {
        EdgeRun.Call[] settings = {x -> x.setCondition(0, 0, 1, 1, 50), x -> x.setColumns(0, 0, 5),
            x -> x.setCondition(0, 0, 0, 0, 0), x -> x.setColumns(0, 0, 7)};
        for (EdgeRun.Call setting : settings) {
            new EdgeRun(SET).does(x -> x.put(0, 0, 1, 2, 3)).puts(1, 0, 1).commits(1)
                .follows(0, 0).does(x -> x.own(0, 0, 9, 9))
                .due(1, setting).due(0, setting).copiedAt(0, -1, 1).stateAndLag(0, 1, 0)
                .subscriberHas(0, 0, "0:1,2,3 9:9,9,9").subscriberHas(0, 1, "0:1,1,1")
                .refused(EdgeRun.NOT_NOW, x -> x.isFaithful(0, 0))
                .due(true, x -> x.isFaithful(0, 1))
                .puts(0, 0, 4).puts(0, 9, 4).puts(1, 0, 4).commits(1)
                .due(1, x -> x.receive(0, 1)).subscriberHas(0, 0, "0:1,2,3 9:9,9,9")
                .subscriberHas(0, 1, "0:4,4,4").due(2, x -> x.copy(0, 0)).copiedAt(0, 2, 1)
                .due(true, x -> x.isFaithful(0, 0)).due(1, setting).due(0, setting);
        }
    }

    private static void settingEndsCopiesOfAllSubscribers() {
        EdgeRun.Call[] settings = {x -> x.setCondition(1, 1, 0, 0, 0), x -> x.setColumns(1, 1, 7)};
        for (EdgeRun.Call setting : settings) {
            new EdgeRun(SET).due(0, setting).does(x -> x.subscribe(0, 1)).due(0, setting)
                .does(x -> x.copy(0, 0)).due(0, setting).does(x -> x.copy(0, 1)).due(1, setting)
                .follows(0, 1).follows(1, 1).follows(2, 0).due(2, setting)
                .copiedAt(0, 0, -1).copiedAt(1, 0, -1).copiedAt(2, 0, 0)
                .follows(0, 1).follows(1, 1).follows(2, 1).does(x -> x.own(1, 0, 5, 7))
                .commitsRow(0, 5, 1).due(0, x -> x.receive(1, 1)).does(x -> x.receive(2, 1))
                .does(x -> x.setLimit(1)).does(x -> x.subscribe(2, 1)).does(x -> x.copy(2, 1))
                .commits(1).stateAndLag(0, 3, 0).stateAndLag(1, 3, 0).stateAndLag(2, 1, 1)
                .due(3, setting).copiedAt(0, 0, -1).copiedAt(1, 0, -1).copiedAt(2, -1, -1)
                .due(0, setting).does(x -> x.copy(2, 1)).due(1, setting);
            new EdgeRun(SET).follows(0, 1).follows(1, 1).follows(2, 1).does(x -> x.drop(0))
                .does(x -> x.own(1, 0, 5, 7)).commitsRow(0, 5, 1).due(0, x -> x.receive(1, 1))
                .does(x -> x.subscribe(2, 2)).does(x -> x.copy(2, 1))
                .due(1, setting).copiedAt(0, -1, -1).copiedAt(1, 0, -1).copiedAt(2, -1, 1)
                .stateAndLag(1, 2, 1);
        }
    }
}
