/** The boundaries in section 2, TRANSACTIONS, and in promises 6 to 14. */
public final class TransactionEdgesTest extends Edges {
    private static final int[] NO_PAGES = {-1, 5, 64, MIN, MAX};

    private static final String READ_STATE = "Throws `IllegalStateException` if the device is off, or the transaction"
            + " is not open";
    private static final String WRITE_STATE = "Throws `IllegalStateException` if the device is off, the transaction is"
            + " not open, the logical page is locked by another transaction, there is not enough room (section 3), or"
            + " power is lost";
    private static final String COMMIT_STATE = "Throws `IllegalStateException` if the device is off, the transaction is"
            + " not open, there is not enough room, or power is lost";
    private static final String CHECKPOINT_STATE = "Throws `IllegalStateException` if the device is off, there is not"
            + " enough room, or power is lost";

    public static void main(String[] args) {
        sixOpen();
        beginWithoutFlashOperation();
        states();
        shadowInPlaceOfAnEarlierOne();
        lockUntilNotOpen();
        ownShadow();
        nobodyElse();
        writeOutside();
        commitPageFirst();
        readerKeeps();
        readerKeepsThroughGarbage();
        readerNumbers();
        closedReaders();
        checkpointNumbers();
        mapOfCommittedVersions();
        atLeastE();
        moreThanE();
        numberOfCommitsBecomesZero();
        noSuchTransactionOrPage();
        notOpen();
        off();
        noRoomOrPower();
        emptyCommit();
        pagesWritten();
        end("TransactionEdgesTest");
    }

    private static void sixOpen() {
        says("Transactions are numbered from 1 in the order in which they begin, up to 1000; at most 6 are open at"
                + " once.");
        TransactionalFlash x = of(BARE);
        due("none", 0, x::transactions);
        for (int i = 1; i <= 6; i++) {
            int number = i;
            due("begin", number, x::begin);
        }
        due("transactions", 6, x::transactions);
        says("Throws `IllegalStateException` if the device is off, 6 transactions are open, or 1000 have begun");
        due("a seventh", STATE, x::begin);
        due("it did not begin", 6, x::transactions);
        due("it is not there", NO_SUCH, () -> x.state(7));
        x.abort(1);
        due("one aborted", 7, x::begin);
        due("six are open again", STATE, x::begin);
        x.write(6, 0, 1);
        x.commit(6);
        due("one committed", 8, x::begin);
        due("six are open again", STATE, x::begin);
        due("six are open when power is lost", 6, x::powerOff);
        due("off", STATE, x::begin);
        x.recover();
        for (int i = 9; i <= 14; i++) {
            int number = i;
            due("six lost", number, x::begin);
        }
        due("six are open again", STATE, x::begin);
    }

    private static void beginWithoutFlashOperation() {
        TransactionalFlash x = of(BARE);
        x.arm(1);
        says("Begins a transaction, without a flash operation.");
        due("begin", 1, x::begin);
        due("what was armed is still to come", 1, () -> x.arm(0));
        x.write(1, 0, 1);
        x.arm(1);
        says("Aborts a transaction, without a flash operation.");
        due("abort", 1, () -> x.abort(1));
        due("what was armed is still to come", 1, () -> x.arm(1));
        due("programs", 1, x::programs);
        x.begin();
        says("One that has written nothing becomes committed without a flash operation (and the number of commits"
                + " stays).");
        due("commit", 0, () -> x.commit(2));
        due("what was armed is still to come", 1, () -> x.arm(1));
        due("state", 2, () -> x.state(2));
        due("commits", 0, x::commits);
    }

    private static void states() {
        says("The states of a transaction are 1 open, 2 committed, 3 aborted, 4 lost.");
        TransactionalFlash x = of(BARE);
        for (int i = 0; i < 4; i++) {
            x.begin();
        }
        x.commit(2);
        x.abort(3);
        due("open", 1, () -> x.state(1));
        due("committed", 2, () -> x.state(2));
        due("aborted", 3, () -> x.state(3));
        x.powerOff();
        due("open until recovery", 1, () -> x.state(4));
        x.recover();
        due("lost", 4, () -> x.state(1));
        due("committed stays", 2, () -> x.state(2));
        due("aborted stays", 3, () -> x.state(3));
        due("lost", 4, () -> x.state(4));
    }

    private static void shadowInPlaceOfAnEarlierOne() {
        says("Its version becomes the shadow version of the logical page in this transaction, in place of an earlier"
                + " one.");
        TransactionalFlash x = of(FULL);
        x.begin();
        x.write(1, 0, 10);
        dueValid("the first", 1, x, 5);
        x.write(1, 0, 11);
        dueValid("the earlier one", 0, x, 5);
        dueValid("the later one", 1, x, 6);
        due("one page is locked", 1, () -> x.locks(1));
        due("read inside", 11, () -> x.read(1, 0));
        due("read outside", 1, () -> x.read(0, 0));
        due("the committed version", 1, () -> x.version(0));
        due("one page is committed", 1, () -> x.commit(1));
        due("the committed version", 7, () -> x.version(0));
    }

    private static void lockUntilNotOpen() {
        says("The logical page is locked by the transaction until it is not open any more; nobody else can write it.");
        TransactionalFlash x = of(BARE);
        for (int i = 0; i < 4; i++) {
            x.begin();
        }
        due("not locked", 0, () -> x.lockedBy(0));
        x.write(1, 0, 1);
        due("locked", 1, () -> x.lockedBy(0));
        due("a read by another does not lock", 1, () -> {
            x.read(2, 1);
            x.read(0, 0);
            return x.lockedBy(0) + x.lockedBy(1);
        });
        x.commit(1);
        due("committed", 0, () -> x.lockedBy(0));
        due("another may write", 3, () -> x.write(2, 0, 2));
        due("locked", 2, () -> x.lockedBy(0));
        x.abort(2);
        due("aborted", 0, () -> x.lockedBy(0));
        due("another may write", 4, () -> x.write(3, 0, 3));
        x.powerOff();
        due("off", 0, () -> x.lockedBy(0));
        x.recover();
        due("lost", 0, () -> x.lockedBy(0));
        due("one outside may write", 5, () -> x.write(0, 0, 4));
    }

    private static void ownShadow() {
        says("a transaction, which sees its own shadow versions; 0 for none");
        TransactionalFlash x = of(FULL);
        x.begin();
        x.begin();
        x.write(1, 0, -1);
        x.write(2, 1, 21);
        due("its own, removed", -1, () -> x.read(1, 0));
        due("that of another one", 2, () -> x.read(1, 1));
        due("its own", 21, () -> x.read(2, 1));
        due("none", 1, () -> x.read(0, 0));
        due("none", 2, () -> x.read(0, 1));
        x.commit(2);
        due("what was committed after it began", 21, () -> x.read(1, 1));
    }

    private static void nobodyElse() {
        says(WRITE_STATE);
        TransactionalFlash x = of(BARE);
        x.begin();
        x.begin();
        x.write(2, 3, 1);
        due("outside", STATE, () -> x.write(0, 3, 1));
        due("another one", STATE, () -> x.write(1, 3, 1));
        due("the page is not locked by the other one", 2, () -> x.lockedBy(3));
        due("nothing was programmed", 1, x::programs);
        due("itself", 2, () -> x.write(2, 3, 2));
        due("the page below", 3, () -> x.write(0, 2, 1));
        due("the page above", 4, () -> x.write(1, 4, 1));
        due("locked by 1", 1, () -> x.locks(1));
        due("locked by 2", 1, () -> x.locks(2));
    }

    private static void writeOutside() {
        says("A write outside transactions programs a data page with the group 0; its version becomes the committed"
                + " version of the logical page at once.");
        TransactionalFlash x = of(BARE);
        x.begin();
        due("write", 1, () -> x.write(0, 2, 5));
        duePage("the page", x, 0, 1, 2, 0, 1, 1, 5);
        due("the committed version", 1, () -> x.version(2));
        due("others see it", 5, () -> x.read(1, 2));
        due("it locks nothing", 0, () -> x.lockedBy(2));
    }

    private static void commitPageFirst() {
        says("A commit programs a commit page; then the shadow versions of the transaction become the committed"
                + " versions of their logical pages.");
        TransactionalFlash x = of(FULL);
        x.begin();
        x.write(1, 0, 10);
        x.write(1, 1, 11);
        x.arm(1);
        due("the commit page is torn", STATE, () -> x.commit(1));
        due("the transaction is open", 1, () -> x.state(1));
        due("recover", 5, x::recover);
        due("nothing was committed", 1, () -> x.read(0, 0));
        due("nothing was committed", 2, () -> x.read(0, 1));
        due("the transaction is lost", 4, () -> x.state(1));

        TransactionalFlash y = of("blocks 4 pages 5 logical 5 every 3; fill 1 2;");
        y.begin();
        y.write(1, 0, 10);
        y.arm(2);
        due("the checkpoint behind the commit page loses power", STATE, () -> y.commit(1));
        due("the transaction is committed", 2, () -> y.state(1));
        due("recover", 2, y::recover);
        due("its page is committed", 10, () -> y.read(0, 0));
        due("it stays committed", 2, () -> y.state(1));
        due("commits", 3, y::commits);
    }

    private static void readerKeeps() {
        says("A reader keeps the committed versions that all logical pages had when it was opened.");
        TransactionalFlash x = of("blocks 5 pages 5 logical 5 every 50; fill 1 2;");
        x.begin();
        x.write(1, 0, 10);
        x.openReader();
        due("no shadow", 1, () -> x.readBy(0, 0));
        x.commit(1);
        x.write(0, 1, 20);
        x.write(0, 4, 40);
        x.openReader();
        x.write(0, 1, 21);
        due("ahead of the commit", 1, () -> x.readBy(0, 0));
        due("ahead of the write", 2, () -> x.readBy(0, 1));
        due("ahead of the first version", -1, () -> x.readBy(0, 4));
        due("behind the commit", 10, () -> x.readBy(1, 0));
        due("behind the write", 20, () -> x.readBy(1, 1));
        due("behind the first version", 40, () -> x.readBy(1, 4));
        due("no version at all", -1, () -> x.readBy(1, 3));
        x.checkpoint();
        due("behind a checkpoint", 2, () -> x.readBy(0, 1));
        x.closeReader(1);
        due("another one was closed", 2, () -> x.readBy(0, 1));
        due("now", 21, () -> x.read(0, 1));
        says("Returns its value at the time when the reader was opened.");
        x.write(0, 1, -1);
        due("removed now", 2, () -> x.readBy(0, 1));
        due("the reader that is opened now", 1, x::openReader);
        due("removed when it was opened", -1, () -> x.readBy(1, 1));
        x.write(0, 1, 22);
        due("written now", -1, () -> x.readBy(1, 1));
        x.closeReader(1);
        says("Throws `NoSuchElementException` if there is no such open reader or logical page");
        for (int page : NO_PAGES) {
            due("page " + page, NO_SUCH, () -> x.readBy(0, page));
        }
        for (int reader : new int[] {-1, 1, 2, 3, 4, 31, 32, 33, MIN, MAX}) {
            due("reader " + reader, NO_SUCH, () -> x.readBy(reader, 0));
        }
    }

    private static void readerKeepsThroughGarbage() {
        says("A reader keeps the committed versions that all logical pages had when it was opened.");
        TransactionalFlash x = of("blocks 4 pages 5 logical 5 every 50; fill 1 2;");
        x.openReader();
        writeTimes(x, 0, 20);
        due("garbage was collected", 1, () -> Checks.bit(x.erases() > 1));
        due("the first version", 1, () -> x.readBy(0, 0));
        due("now", 119, () -> x.read(0, 0));
        x.closeReader(0);
        due("a reader that is opened now", 0, x::openReader);
        due("reads what is now", 119, () -> x.readBy(0, 0));
    }

    private static void readerNumbers() {
        says("At most 4 readers, numbered from 0, are open at once; a new one gets the lowest number that is not in"
                + " use.");
        TransactionalFlash x = of(BARE);
        for (int i = 0; i < 4; i++) {
            int number = i;
            due("openReader", number, x::openReader);
        }
        says("Throws `IllegalStateException` if the device is off, or 4 readers are open");
        due("a fifth", STATE, x::openReader);
        due("the set of readers stays", 15, x::readers);
        says("a new one gets the lowest number that is not in use.");
        x.closeReader(0);
        x.closeReader(2);
        due("the lowest of two", 0, x::openReader);
        due("the next one", 2, x::openReader);
        due("a fifth", STATE, x::openReader);
        x.closeReader(3);
        due("the greatest number", 3, x::openReader);
        x.powerOff();
        due("off", STATE, x::openReader);
        x.recover();
        due("all were closed", 0, x::openReader);
    }

    private static void closedReaders() {
        TransactionalFlash x = of(BARE);
        for (int i = 0; i < 4; i++) {
            x.openReader();
        }
        says("Returns the number of readers that are open then.");
        due("closeReader", 3, () -> x.closeReader(3));
        due("closeReader", 2, () -> x.closeReader(0));
        due("closeReader", 1, () -> x.closeReader(1));
        due("closeReader", 0, () -> x.closeReader(2));
        says("Throws `NoSuchElementException` if there is no such open reader");
        for (int reader : new int[] {-1, 0, 1, 2, 3, 4, 31, 32, 34, MIN, MAX}) {
            due("closed or none: " + reader, NO_SUCH, () -> x.closeReader(reader));
        }
        x.openReader();
        x.powerOff();
        due("closed by the loss", NO_SUCH, () -> x.closeReader(0));
    }

    private static void checkpointNumbers() {
        says("A checkpoint gets the next number, counted from 1. It programs the M map pages, in ascending order, with"
                + " the committed versions, and then the end page.");
        TransactionalFlash x = of(PARTS);
        due("without a commit", 1, x::checkpoint);
        duePage("the first part", x, 0, 3, 0, 1, 1, 1, -2);
        duePage("the second part", x, 1, 3, 1, 1, 2, 2, -2);
        duePage("the end page", x, 2, 4, 0, 1, 3, 3, -2);
        due("no page more", 3, x::programs);
        due("the next one", 2, x::checkpoint);
        x.arm(3);
        due("one that loses power at its end page", STATE, x::checkpoint);
        x.recover();
        due("the numbers go on", 4, x::checkpoint);
        due("off", STATE, () -> {
            x.powerOff();
            return x.checkpoint();
        });
    }

    private static void mapOfCommittedVersions() {
        says("It programs the M map pages, in ascending order, with the committed versions, and then the end page.");
        TransactionalFlash x = of(PARTS);
        x.write(0, 8, 80);
        x.begin();
        x.write(1, 8, 81);
        x.write(1, 0, 1);
        x.checkpoint();
        x.powerOff();
        due("one committed version", 1, x::recover);
        due("no shadow in the map", 1, () -> x.version(8));
        due("no shadow in the map", 0, () -> x.version(0));
    }

    private static void atLeastE() {
        says("After each commit of a transaction and each write outside transactions, the number of commits increases"
                + " by 1; if it is at least E then, a checkpoint is made.");
        TransactionalFlash x = of("blocks 4 pages 5 logical 5 every 1;");
        x.begin();
        x.write(0, 0, 1);
        due("E = 1, a write", 1, x::lastCheckpoint);
        x.write(1, 1, 1);
        due("E = 1, a write in a transaction", 1, x::lastCheckpoint);
        x.commit(1);
        due("E = 1, a commit", 2, x::lastCheckpoint);

        TransactionalFlash y = of("blocks 4 pages 5 logical 5 every 3;");
        y.begin();
        y.begin();
        y.begin();
        y.write(0, 0, 1);
        y.write(1, 1, 1);
        y.commit(1);
        y.write(2, 2, 1);
        due("E = 3, two of them", 2, y::commits);
        y.abort(2);
        y.commit(3);
        due("an abort and an empty commit are none", 2, y::commits);
        due("no checkpoint yet", 0, y::lastCheckpoint);
        due("the third", 5, () -> y.write(0, 0, 1));
        due("a checkpoint", 1, y::lastCheckpoint);
        due("commits", 0, y::commits);

        TransactionalFlash z = of(WIDE);
        writeTimes(z, 0, 49);
        due("E = 50, 49 of them", 49, z::commits);
        due("no checkpoint yet", 0, z::lastCheckpoint);
        due("the 50th", 50, () -> z.write(0, 0, 1));
        due("a checkpoint", 1, z::lastCheckpoint);
    }

    private static void moreThanE() {
        says("if it is at least E then, a checkpoint is made.");
        TransactionalFlash x = of("blocks 5 pages 5 logical 5 every 2;");
        x.write(0, 0, 1);
        for (int i = 2; i <= 4; i++) {
            int commits = i;
            x.arm(2);
            due("a loss in the checkpoint", STATE, () -> x.write(0, commits % 2, 1));
            x.recover();
            due("commits", commits, x::commits);
            due("no checkpoint", 0, x::lastCheckpoint);
        }
        x.begin();
        x.write(1, 3, 5);
        due("a commit beyond E", 1, () -> x.commit(1));
        due("a checkpoint, the fourth that began", 4, x::lastCheckpoint);
        due("commits", 0, x::commits);
        x.write(0, 0, 1);
        due("one of two", 4, x::lastCheckpoint);
    }

    private static void numberOfCommitsBecomesZero() {
        says("The number of commits becomes 0 when an end page has been programmed.");
        TransactionalFlash x = of("blocks 5 pages 5 logical 5 every 3;");
        x.write(0, 0, 1);
        x.write(0, 1, 1);
        due("commits", 2, x::commits);
        x.checkpoint();
        due("by checkpoint()", 0, x::commits);
        x.write(0, 0, 1);
        x.write(0, 1, 1);
        due("counted from 0 again", 1, x::lastCheckpoint);
        x.arm(3);
        due("a loss at the end page", STATE, () -> x.write(0, 0, 2));
        x.recover();
        due("not 0 without the end page", 3, x::commits);
        due("nor is the checkpoint complete", 1, x::lastCheckpoint);
    }

    private static void noSuchTransactionOrPage() {
        says("Throws `NoSuchElementException` if there is no such transaction or logical page");
        TransactionalFlash x = of(BARE);
        x.begin();
        for (int page : NO_PAGES) {
            due("write of page " + page, NO_SUCH, () -> x.write(0, page, 1));
            due("write in 1 of page " + page, NO_SUCH, () -> x.write(1, page, 1));
            due("read of page " + page, NO_SUCH, () -> x.read(0, page));
            due("read in 1 of page " + page, NO_SUCH, () -> x.read(1, page));
        }
        for (int number : new int[] {-1, 2, 1000, 1001, MIN, MAX}) {
            due("write in " + number, NO_SUCH, () -> x.write(number, 0, 1));
            due("read in " + number, NO_SUCH, () -> x.read(number, 0));
        }
        due("the last logical page", 1, () -> x.write(1, 4, 1));
        due("the first logical page", 2, () -> x.write(0, 0, 1));
        says("Throws `NoSuchElementException` if there is no such transaction");
        for (int number : new int[] {-1, 0, 2, 1000, 1001, MIN, MAX}) {
            due("commit of " + number, NO_SUCH, () -> x.commit(number));
            due("abort of " + number, NO_SUCH, () -> x.abort(number));
        }
        due("nothing was programmed", 2, x::programs);
    }

    /** Transactions 1 to 4 are lost, one of them with a page, 5 is committed, 6 aborted, 7 committed without a page. */
    private static TransactionalFlash noneOpen() {
        TransactionalFlash x = of(BARE);
        for (int i = 0; i < 4; i++) {
            x.begin();
        }
        x.write(3, 1, 1);
        x.powerOff();
        x.recover();
        for (int i = 0; i < 3; i++) {
            x.begin();
        }
        x.write(5, 0, 1);
        x.commit(5);
        x.write(6, 2, 1);
        x.abort(6);
        x.commit(7);
        return x;
    }

    private static void notOpen() {
        TransactionalFlash x = noneOpen();
        for (int i = 1; i <= 7; i++) {
            int number = i;
            says(READ_STATE);
            due("read in " + i, STATE, () -> x.read(number, 0));
            due("abort of " + i, STATE, () -> x.abort(number));
            says(WRITE_STATE);
            due("write in " + i, STATE, () -> x.write(number, 0, 1));
            says(COMMIT_STATE);
            due("commit of " + i, STATE, () -> x.commit(number));
        }
        due("programs", 4, x::programs);
        due("states", 4444232, () -> {
            int all = 0;
            for (int i = 1; i <= 7; i++) {
                all = all * 10 + x.state(i);
            }
            return all;
        });
    }

    private static void off() {
        TransactionalFlash x = of(FULL);
        x.begin();
        x.write(1, 0, 9);
        x.powerOff();
        says(READ_STATE);
        due("read", STATE, () -> x.read(0, 0));
        due("read in an open transaction", STATE, () -> x.read(1, 0));
        due("abort", STATE, () -> x.abort(1));
        says(WRITE_STATE);
        due("write", STATE, () -> x.write(0, 1, 1));
        due("write in an open transaction", STATE, () -> x.write(1, 1, 1));
        says(COMMIT_STATE);
        due("commit", STATE, () -> x.commit(1));
        says(CHECKPOINT_STATE);
        due("checkpoint", STATE, x::checkpoint);
        due("the transaction is open all the same", 1, () -> x.state(1));
        due("nothing was programmed", 6, x::programs);
        due("no other loss", 1, x::losses);
    }

    private static void noRoomOrPower() {
        TransactionalFlash x = of(FULL);
        x.begin();
        for (int page = 0; page < 5; page++) {
            x.write(1, page, 9);
        }
        says(WRITE_STATE);
        due("no room", STATE, () -> x.write(1, 0, 9));
        says(COMMIT_STATE);
        due("no room", STATE, () -> x.commit(1));
        says(CHECKPOINT_STATE);
        due("no room", STATE, x::checkpoint);
        dueOn("no room", x);

        String[] sentences = {WRITE_STATE, WRITE_STATE, COMMIT_STATE, CHECKPOINT_STATE};
        for (int i = 0; i < sentences.length; i++) {
            int which = i;
            TransactionalFlash y = of(FULL);
            y.begin();
            y.write(1, 0, 9);
            y.arm(1);
            says(sentences[i]);
            due("power is lost", STATE, () -> which == 0 ? y.write(0, 1, 1) : which == 1 ? y.write(1, 1, 1)
                    : which == 2 ? y.commit(1) : y.checkpoint());
            dueOff("power is lost", y);
            due("losses", 1, y::losses);
        }
    }

    private static void emptyCommit() {
        says("One that has written nothing becomes committed without a flash operation (and the number of commits"
                + " stays).");
        TransactionalFlash x = of("blocks 4 pages 5 logical 5 every 1;");
        x.begin();
        due("E = 1", 0, () -> x.commit(1));
        due("no checkpoint", 0, x::lastCheckpoint);
        due("state", 2, () -> x.state(1));

        TransactionalFlash y = of(FULL);
        y.begin();
        y.begin();
        for (int page = 0; page < 5; page++) {
            y.write(1, page, 9);
        }
        due("no valid page more has room", STATE, () -> y.commit(1));
        due("but nothing is to be programmed", 0, () -> y.commit(2));
        due("programs", 10, y::programs);
    }

    private static void pagesWritten() {
        says("Returns the number of logical pages that it has written.");
        TransactionalFlash x = of("blocks 5 pages 5 logical 5 every 50;");
        for (int i = 0; i < 4; i++) {
            x.begin();
        }
        due("commit of none", 0, () -> x.commit(1));
        due("abort of none", 0, () -> x.abort(2));
        x.write(3, 0, 1);
        x.write(3, 0, -1);
        due("one, written twice", 1, () -> x.commit(3));
        for (int page = 0; page < 5; page++) {
            x.write(4, page, 1);
        }
        due("all", 5, () -> x.abort(4));
        x.begin();
        for (int page = 0; page < 5; page++) {
            x.write(5, page, 1);
        }
        due("all", 5, () -> x.commit(5));
    }
}
