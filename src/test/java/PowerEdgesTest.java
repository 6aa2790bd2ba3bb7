/** The boundaries in section 4, POWER, and in promises 15 to 18. */
public final class PowerEdgesTest extends Edges {
    private static final String LOST = "Power is lost at the n-th flash operation from now on if this was armed, or at"
            + " once by powerOff().";
    private static final String ERASED = "Then the device is on, and each block that has pages that are not free but"
            + " no valid page is erased, in ascending order.";
    private static final String NEWEST = "After this, the block of the programmed page with the greatest sequence"
            + " number becomes the active block if it has a free page; otherwise there is no active block.";
    private static final String ARMED = "It stays armed until it happens, also through powerOff() and recovery.";
    private static final String FORGOTTEN = "When power is lost, the following is forgotten: committed versions, shadow"
            + " versions, locks, readers (all are closed), which block is active, which checkpoint is the latest one,"
            + " the number of commits.";

    public static void main(String[] args) {
        nthOperation();
        copiesAndErasingsCount();
        thousandthOperation();
        powerOff();
        noBlockFree();
        noBlockFreeForACheckpoint();
        tornPage();
        tornBlock();
        doneBeforeStaysDone();
        forgotten();
        goesOn();
        tornIsNeverValid();
        greatestEndPage();
        withoutAnEndPage();
        mapPagesInAnyOrder();
        greaterThanTheEndPage();
        ascendingVersions();
        greatestVersionOfATransaction();
        eachPageOfATransaction();
        copiesCountedOnce();
        openBecomesLost();
        blocksWithoutValidPages();
        recoveryLosesPower();
        newestBlock();
        newestStandsBelow();
        newestIsACopy();
        armRange();
        staysArmed();
        withoutAFormat();
        recoverReturns();
        end("PowerEdgesTest");
    }

    private static void nthOperation() {
        says(LOST);
        for (int n = 1; n <= 4; n++) {
            TransactionalFlash x = of(BARE);
            x.arm(n);
            for (int i = 1; i < n; i++) {
                int version = i;
                due("operation " + i + " of " + n, version, () -> x.write(0, 0, 1));
            }
            due("operation " + n, STATE, () -> x.write(0, 0, 1));
            dueOff("after it", x);
            due("the page is torn", 5, () -> x.flashPage(x.programs(), 0));
            due("nothing is armed any more", 0, () -> x.arm(0));
            x.recover();
            due("so the next one is not lost", x.programs() + 1, () -> x.write(0, 0, 1));
        }
    }

    private static void copiesAndErasingsCount() {
        says("Programming a page and erasing a block are flash operations.");
        int[] programs = {10, 11, 11, 12};
        int[] copies = {0, 1, 1, 1};
        int[] erases = {0, 0, 1, 1};
        for (int n = 1; n <= 4; n++) {
            int i = n - 1;
            TransactionalFlash x = of("blocks 4 pages 5 logical 4 every 50; fill 10 20;");
            writeTimes(x, 3, 8);
            x.arm(n);
            due("a copy, an erasing and the write, lost at " + n, n < 4 ? STATE : 12, () -> x.write(0, 3, 1));
            due("programs", programs[i], x::programs);
            due("copies", copies[i], x::copies);
            due("erases", erases[i], x::erases);
            due("torn pages in the new block", n == 1 || n == 3 ? 1 : 0, () -> x.block(2, 3));
            due("torn pages in the block that is collected", n == 2 ? 5 : 0, () -> x.block(1, 3));
            due("writes", n < 4 ? 10 : 11, x::writes);
            due("losses", n < 4 ? 1 : 0, x::losses);
            due("still to come", n < 4 ? 0 : 1, () -> x.arm(0));
        }
    }

    private static void thousandthOperation() {
        says(LOST);
        TransactionalFlash x = of("blocks 32 pages 32 logical 64 every 1;");
        x.arm(1000);
        int calls = 0;
        while (x.losses() == 0 && calls < 200) {
            Checks.outcome(() -> x.write(0, 63, 1));
            calls++;
        }
        due("999 operations stand", 999, () -> x.programs() + x.erases());
        due("losses", 1, x::losses);
        due("writes", calls - 1, x::writes);
    }

    private static void powerOff() {
        says(LOST);
        TransactionalFlash x = of(FULL);
        due("at once", 0, x::powerOff);
        dueOff("at once", x);
        due("no page is torn", 0, () -> x.block(0, 3) + x.block(1, 3));
        due("a loss", 1, x::losses);
        says("Throws `IllegalStateException` if the device is off");
        due("off", STATE, x::powerOff);
        due("no other loss", 1, x::losses);
        says("Returns the number of transactions that are open (they stay open until recovery).");
        x.recover();
        for (int i = 0; i < 6; i++) {
            x.begin();
        }
        due("six", 6, x::powerOff);
        due("the first stays open", 1, () -> x.state(1));
        due("the last stays open", 1, () -> x.state(6));
        x.recover();
        due("the lost ones are not open", 0, x::powerOff);
        x.recover();
        x.begin();
        x.begin();
        x.begin();
        x.commit(7);
        x.abort(8);
        due("one of three", 1, x::powerOff);
    }

    /** All blocks have valid pages, as power was lost twice when one was collected; three pages are free. */
    private static TransactionalFlash crowded() {
        TransactionalFlash x = interrupted();
        x.begin();
        x.write(1, 2, 20);
        x.write(1, 2, 21);
        x.write(1, 3, 22);
        x.arm(2);
        due("a loss at the second copy", STATE, () -> x.write(1, 4, 23));
        due("recover", 5, x::recover);
        due("no block is free", 0, x::freeBlocks);
        due("the active block has a free page", 3, x::activeBlock);
        return x;
    }

    private static void noBlockFree() {
        says("It is also lost if room has to be made and no block is free.");
        TransactionalFlash x = crowded();
        due("no room has to be made", 16, () -> x.write(0, 0, 30));
        due("no room has to be made", 17, () -> x.write(0, 0, 31));
        x.begin();
        due("no room has to be made", 18, () -> x.write(2, 4, 32));
        due("the active block is full", 5, () -> x.block(3, 1));
        x.arm(1);
        due("room has to be made", STATE, () -> x.commit(2));
        dueOff("no block is free", x);
        due("losses", 3, x::losses);
        due("no page is torn but those of before", 1, () -> x.block(3, 3));
        due("no page is programmed", 18, x::programs);
        due("no operation took place", 1, () -> x.arm(0));
        due("the transaction is open", 1, () -> x.state(2));
        due("recover", 5, x::recover);
        due("the transaction is lost", 4, () -> x.state(2));
        due("the values stand", 31, () -> x.read(0, 0));
        due("the values stand", 5, () -> x.read(0, 4));
        due("there is no active block", -1, x::activeBlock);
        due("nothing would be collected", -1, x::victim);
        due("lost again", STATE, () -> x.write(0, 0, 33));
        due("losses", 4, x::losses);
        due("writes", 14, x::writes);
    }

    private static void noBlockFreeForACheckpoint() {
        says("It is also lost if room has to be made and no block is free.");
        TransactionalFlash x = crowded();
        x.write(0, 0, 30);
        x.write(0, 0, 31);
        due("behind the map page", STATE, x::checkpoint);
        due("the map page was programmed", 18, x::programs);
        due("recover", 5, x::recover);
        due("the checkpoint is not complete", 1, x::lastCheckpoint);
        due("the values stand", 31, () -> x.read(0, 0));
    }

    private static void tornPage() {
        says("If power is lost at the programming of a page, this page is torn;");
        TransactionalFlash x = of(BARE);
        x.write(0, 0, 1);
        x.arm(1);
        due("the loss", STATE, () -> x.write(0, 0, 2));
        duePage("the page", x, 1, 5, -1, -1, -1, -1, -2);
        duePage("the page ahead of it", x, 0, 1, 0, 0, 1, 1, 1);
        duePage("the page behind it", x, 2, 0, -1, -1, -1, -1, -2);
        due("not free", 2, () -> x.block(0, 1));
        due("torn", 1, () -> x.block(0, 3));
        due("programs", 1, x::programs);
        x.recover();
        due("torn after recovery, too", 5, () -> x.flashPage(1, 0));
        due("the page behind it is the next one", 2, () -> {
            x.write(0, 0, 3);
            return x.place(0);
        });
    }

    private static void tornBlock() {
        says("if it is lost at the erasing of a block, all pages of this block are torn and its erase count stays.");
        TransactionalFlash x = of(TINY);
        writeTimes(x, 0, 6);
        x.arm(1);
        due("the loss", STATE, () -> x.write(0, 0, 1));
        due("torn in the block", 2, () -> x.block(0, 3));
        due("not free in the block", 2, () -> x.block(0, 1));
        duePage("its first page", x, 0, 5, -1, -1, -1, -1, -2);
        duePage("its last page", x, 1, 5, -1, -1, -1, -1, -2);
        due("torn in the block behind it", 0, () -> x.block(1, 3));
        due("its erase count", 0, () -> x.block(0, 0));
        due("erases", 0, x::erases);
        due("wearGap", 0, x::wearGap);
        x.recover();
        due("it is erased by recovery", 1, () -> x.block(0, 0));
        due("its pages are free", 0, () -> x.block(0, 1));
        due("none is torn", 0, () -> x.block(0, 3));
    }

    private static void doneBeforeStaysDone() {
        says("Then the device is off, the method throws an IllegalStateException, and what it has done before stays"
                + " done on the flash.");
        TransactionalFlash x = of("blocks 4 pages 5 logical 5 every 2; fill 1;");
        x.begin();
        x.write(1, 1, 5);
        x.arm(3);
        due("the end page of the checkpoint behind a commit", STATE, () -> x.commit(1));
        dueOff("after it", x);
        duePage("the commit page", x, 2, 2, 1, 1, 3, 3, -2);
        duePage("the map page", x, 3, 3, 0, 1, 4, 4, -2);
        due("the end page", 5, () -> x.flashPage(4, 0));
        due("recover", 2, x::recover);
        due("the commit stands", 5, () -> x.read(0, 1));
        due("the transaction is committed", 2, () -> x.state(1));
        x.arm(2);
        due("the checkpoint behind a write", STATE, () -> x.write(0, 2, 6));
        x.recover();
        due("the write stands", 6, () -> x.read(0, 2));
        due("it returned no version", 2, x::writes);
    }

    private static void forgotten() {
        says(FORGOTTEN);
        TransactionalFlash x = of(FULL);
        x.begin();
        x.checkpoint();
        x.write(0, 1, 9);
        x.write(1, 0, 9);
        x.openReader();
        x.powerOff();
        due("committed versions", -1, () -> x.version(1));
        due("their places", -1, () -> x.place(1));
        due("locks of a page", 0, () -> x.lockedBy(0));
        due("locks of a transaction", 0, () -> x.locks(1));
        due("readers", 0, x::readers);
        due("a reader", NO_SUCH, () -> x.readBy(0, 0));
        due("the active block", -1, x::activeBlock);
        due("the latest checkpoint", 0, x::lastCheckpoint);
        due("the number of commits", 0, x::commits);
        due("valid pages", 0, x::validPages);
        x.recover();
        due("the shadow is not known again", 0, () -> x.lockedBy(0));
        dueValid("nor is its page valid", 0, x, 8);
        due("nor are the readers open", 0, x::readers);
        due("the rest is known again: the version", 8, () -> x.version(1));
        due("the active block", 1, x::activeBlock);
        due("the latest checkpoint", 1, x::lastCheckpoint);
        due("the number of commits", 1, x::commits);
        x.arm(1);
        x.openReader();
        due("an armed loss", STATE, () -> x.write(0, 0, 1));
        due("readers", 0, x::readers);
        due("commits", 0, x::commits);
        due("the latest checkpoint", 0, x::lastCheckpoint);
    }

    private static void goesOn() {
        says("The sequence numbers, the numbers of transactions and checkpoints, the states of transactions and the"
                + " counts go on.");
        TransactionalFlash x = of(TINY);
        x.begin();
        x.begin();
        x.commit(2);
        writeTimes(x, 0, 8);
        x.checkpoint();
        int programs = x.programs();
        x.powerOff();
        due("programs", programs, x::programs);
        due("erases", 2, x::erases);
        due("writes", 8, x::writes);
        due("copies", 0, x::copies);
        due("transactions", 2, x::transactions);
        due("a state", 2, () -> x.state(2));
        x.recover();
        due("the next sequence number", programs + 1, () -> x.write(0, 0, 1));
        due("the next transaction", 3, x::begin);
        due("the next checkpoint", 2, x::checkpoint);
        due("losses", 1, x::losses);
        due("writes", 9, x::writes);
        due("a state", 2, () -> x.state(2));
    }

    private static void tornIsNeverValid() {
        says("A torn page has no kind, no spare area, and is never valid.");
        TransactionalFlash x = of(BARE);
        x.write(0, 0, 1);
        x.arm(1);
        due("a loss", STATE, () -> x.write(0, 0, 2));
        dueValid("off", 0, x, 1);
        x.recover();
        dueValid("on", 0, x, 1);
        due("valid pages of its block", 1, () -> x.block(0, 2));
        due("the version of before", 1, () -> x.version(0));
        due("commits", 1, x::commits);
    }

    private static void greatestEndPage() {
        says("The latest complete checkpoint is that of the end page with the greatest version;");
        TransactionalFlash x = of(TINY);
        writeTimes(x, 0, 4);
        x.checkpoint();
        writeTimes(x, 0, 4);
        due("the next checkpoint", 2, x::checkpoint);
        duePage("its end page is the lowest", x, 1, 4, 0, 2, 12, 12, -2);
        duePage("the earlier one stands above it", x, 5, 4, 0, 1, 6, 6, -2);
        x.powerOff();
        due("recover", 1, x::recover);
        due("the latest one", 2, x::lastCheckpoint);
        due("the version of its map", 10, () -> x.version(0));
        due("commits", 0, x::commits);

        TransactionalFlash z = of(TINY);
        writeTimes(z, 0, 4);
        z.checkpoint();
        writeTimes(z, 0, 3);
        due("the next checkpoint", 2, z::checkpoint);
        duePage("its end page is the first page of all", z, 0, 4, 0, 2, 11, 11, -2);
        duePage("the earlier one stands above it", z, 5, 4, 0, 1, 6, 6, -2);
        z.powerOff();
        due("recover", 1, z::recover);
        due("the latest one", 2, z::lastCheckpoint);
        due("the version of its map", 9, () -> z.version(0));

        TransactionalFlash y = of(BARE);
        y.write(0, 0, 1);
        y.checkpoint();
        y.write(0, 0, 2);
        y.checkpoint();
        y.write(0, 1, 3);
        y.powerOff();
        due("recover", 2, y::recover);
        due("the latest one stands above the earlier one", 2, y::lastCheckpoint);
        due("the version of its map", 4, () -> y.version(0));
        due("commits", 1, y::commits);
    }

    private static void withoutAnEndPage() {
        says("without an end page there is none.");
        TransactionalFlash x = of(PARTS);
        x.powerOff();
        due("an empty flash", 0, x::recover);
        due("lastCheckpoint", 0, x::lastCheckpoint);
        due("commits", 0, x::commits);
        due("activeBlock", -1, x::activeBlock);
        says("The committed versions are those in its map pages (0 without a checkpoint).");
        x.write(0, 8, 1);
        x.arm(3);
        due("a checkpoint without its end page", STATE, x::checkpoint);
        due("recover", 1, x::recover);
        due("lastCheckpoint", 0, x::lastCheckpoint);
        due("a page that was not written", 0, () -> x.version(0));
        due("the first version is greater than 0", 1, () -> x.version(8));
        due("commits", 1, x::commits);
    }

    private static void mapPagesInAnyOrder() {
        says("The committed versions are those in its map pages (0 without a checkpoint).");
        TransactionalFlash x = of(PARTS);
        writeTimes(x, 0, 30);
        x.write(0, 8, 80);
        due("a checkpoint from the last page of the flash on", 1, x::checkpoint);
        duePage("the first part is the last page of all", x, 31, 3, 0, 1, 32, 32, -2);
        duePage("the second part is the first page of all", x, 0, 3, 1, 1, 33, 33, -2);
        x.powerOff();
        due("recover", 2, x::recover);
        due("by the first part", 30, () -> x.version(0));
        due("by the second part", 31, () -> x.version(8));
        due("none, by the first part", 0, () -> x.version(7));
        due("nothing behind it", 0, x::commits);
    }

    private static void greaterThanTheEndPage() {
        says("whose version is greater than that of the end page (0 without one), is applied:");
        TransactionalFlash x = of(BARE);
        x.begin();
        x.begin();
        x.write(1, 0, 10);
        x.commit(1);
        x.write(0, 0, 11);
        x.write(2, 1, 12);
        x.checkpoint();
        x.powerOff();
        due("nothing behind the end page", 1, x::recover);
        due("the version of the map, not that of the commit page", 3, () -> x.version(0));
        due("commits", 0, x::commits);
        due("the version behind the end page", 7, () -> x.write(0, 0, 13));
        x.powerOff();
        due("one page behind it", 1, x::recover);
        due("it is applied", 7, () -> x.version(0));
        due("commits", 1, x::commits);

        TransactionalFlash y = of(BARE);
        y.begin();
        y.write(1, 1, 10);
        y.checkpoint();
        y.commit(1);
        y.powerOff();
        due("a commit page behind it, of a data page ahead of it", 1, y::recover);
        due("is applied", 1, () -> y.version(1));
        due("commits", 1, y::commits);
    }

    private static void ascendingVersions() {
        says("in ascending order of their versions");
        TransactionalFlash x = of(TINY);
        writeTimes(x, 0, 11);
        due("the newest stands lowest", 0, () -> x.place(0));
        x.powerOff();
        due("recover", 1, x::recover);
        due("it is applied last", 11, () -> x.version(0));
        says("Recovery reads all programmed pages.");
        due("also those that were not valid count", 5, x::commits);
        says("in ascending order of their versions");

        TransactionalFlash y = of(BARE);
        y.begin();
        y.begin();
        y.write(2, 0, 20);
        y.commit(2);
        y.write(1, 0, 10);
        y.commit(1);
        y.write(0, 0, 5);
        y.begin();
        y.write(3, 0, 30);
        y.commit(3);
        y.powerOff();
        due("recover", 1, y::recover);
        due("not in the order of the transactions", 30, () -> y.read(0, 0));
        due("commits", 4, y::commits);
    }

    private static void greatestVersionOfATransaction() {
        says("commit page makes the greatest version that a data page of its transaction has for a logical page the"
                + " committed version of this logical page");
        TransactionalFlash x = of(TINY);
        writeTimes(x, 0, 6);
        x.begin();
        for (int i = 0; i < 5; i++) {
            x.write(1, 0, 20 + i);
        }
        due("commit", 1, () -> x.commit(1));
        due("the greatest stands lowest", 0, () -> x.place(0));
        due("an earlier one stands above it", 10, () -> x.flashPage(9, 3));
        x.powerOff();
        due("recover", 1, x::recover);
        due("the greatest", 11, () -> x.version(0));
        due("its value", 24, () -> x.read(0, 0));
        due("two pages outside and the commit page", 3, x::commits);
    }

    private static void eachPageOfATransaction() {
        says("for each logical page that has a data page of the transaction.");
        TransactionalFlash x = of("blocks 6 pages 8 logical 9 every 50; fill 1 2 3 4 5 6 7 8 9;");
        x.begin();
        x.begin();
        x.write(1, 0, 10);
        x.write(2, 4, 20);
        x.write(1, 8, 18);
        x.commit(1);
        x.powerOff();
        due("recover", 9, x::recover);
        due("the first page", 10, () -> x.read(0, 0));
        due("the last page", 18, () -> x.read(0, 8));
        due("a page of another transaction", 5, () -> x.read(0, 4));
        due("a page of none", 2, () -> x.read(0, 1));

        TransactionalFlash y = of(WIDE);
        y.begin();
        y.begin();
        y.write(1, 0, 10);
        y.write(1, 63, 73);
        y.commit(1);
        y.write(0, 0, 11);
        y.write(0, 63, 74);
        y.write(2, 1, 20);
        y.commit(2);
        y.powerOff();
        due("recover", 3, y::recover);
        due("a page of the first commit, written over ahead of the second", 11, () -> y.read(0, 0));
        due("the last page likewise", 74, () -> y.read(0, 63));
        due("the page of the second commit", 20, () -> y.read(0, 1));
    }

    private static void copiesCountedOnce() {
        says("The number of commits is the number of these pages, copies being counted once.");
        TransactionalFlash x = of(BARE);
        x.begin();
        x.begin();
        x.write(0, 1, 71);
        x.write(1, 0, 70);
        x.commit(1);
        x.write(0, 3, 73);
        x.write(0, 2, 72);
        x.write(0, 2, 74);
        for (int page : new int[] {0, 1, 3, 4}) {
            x.write(2, page, 75);
        }
        due("commits", 5, x::commits);
        x.arm(4);
        due("a loss at the fourth copy", STATE, () -> x.write(2, 4, 76));
        duePage("a commit page", x, 2, 2, 1, 1, 3, 3, -2);
        duePage("its copy", x, 12, 2, 1, 1, 3, 13, -2);
        due("recover", 4, x::recover);
        due("commits", 5, x::commits);
        due("one page of each is valid", 5, x::validPages);
        due("the value of a copy", 71, () -> x.read(0, 1));
        due("the place of a copy", 10, () -> x.place(1));
        due("the place of a copy of a transaction's page", 11, () -> x.place(0));
        due("the place of a page that was not copied", 3, () -> x.place(3));
    }

    private static void openBecomesLost() {
        says("Each open transaction becomes lost.");
        TransactionalFlash x = of(BARE);
        for (int i = 0; i < 6; i++) {
            x.begin();
        }
        x.write(1, 0, 1);
        x.write(6, 1, 1);
        x.write(3, 2, 1);
        x.commit(2);
        x.commit(3);
        x.abort(4);
        x.powerOff();
        x.recover();
        int[] states = {4, 2, 2, 3, 4, 4};
        for (int i = 1; i <= 6; i++) {
            int number = i;
            due("state of " + i, states[i - 1], () -> x.state(number));
        }
        due("none is open", 0, x::powerOff);
    }

    private static void blocksWithoutValidPages() {
        says(ERASED);
        TransactionalFlash x = of(TINY);
        writeTimes(x, 0, 5);
        x.powerOff();
        x.recover();
        int[] counts = {1, 1, 0, 0, 0};
        for (int i = 0; i < 5; i++) {
            int block = i;
            due("erase count of block " + i, counts[i], () -> x.block(block, 0));
        }
        due("erases", 2, x::erases);
        due("free blocks", 4, x::freeBlocks);
        due("copies", 0, x::copies);

        TransactionalFlash y = of(TINY);
        y.arm(1);
        due("a torn page alone", STATE, () -> y.write(0, 0, 1));
        due("recover", 0, y::recover);
        due("its block is erased", 1, () -> y.block(0, 0));
        due("no active block", -1, y::activeBlock);
        due("the least worn block is programmed", 2, () -> {
            y.write(0, 0, 1);
            return y.place(0);
        });
    }

    private static void recoveryLosesPower() {
        says(ERASED);
        TransactionalFlash x = of(TINY);
        x.begin();
        writeTimes(x, 0, 5);
        x.powerOff();
        x.arm(2);
        due("a loss at the second erasing", STATE, x::recover);
        dueOff("after it", x);
        due("losses", 2, x::losses);
        due("the lowest block was erased", 1, () -> x.block(0, 0));
        due("the next one is torn", 2, () -> x.block(1, 3));
        due("its erase count stays", 0, () -> x.block(1, 0));
        due("the active block is forgotten", -1, x::activeBlock);
        due("the versions are forgotten", -1, () -> x.version(0));
        due("the commits are forgotten", 0, x::commits);
        due("the transaction is lost", 4, () -> x.state(1));
        due("on is refused to it", STATE, x::powerOff);
        due("recover", 1, x::recover);
        due("the torn block is erased", 1, () -> x.block(1, 0));
        due("block 0 is not erased again", 1, () -> x.block(0, 0));
        due("one page is left to count", 1, x::commits);
        due("the active block", 2, x::activeBlock);
    }

    private static void newestBlock() {
        says(NEWEST);
        TransactionalFlash x = of(TINY);
        x.write(0, 0, 1);
        x.powerOff();
        x.recover();
        due("one free page", 0, x::activeBlock);
        x.write(0, 0, 2);
        x.powerOff();
        x.recover();
        due("full", -1, x::activeBlock);
        x.begin();
        x.write(1, 0, 3);
        due("the block of the shadow", 1, x::activeBlock);
        x.powerOff();
        x.recover();
        due("the newest block was erased, the next one is full", -1, x::activeBlock);
        due("it was erased", 1, () -> x.block(1, 0));

        TransactionalFlash y = of(BARE);
        y.write(0, 0, 1);
        y.arm(1);
        due("a torn page", STATE, () -> y.write(0, 0, 2));
        y.recover();
        due("free pages behind a torn page", 0, y::activeBlock);
        y.powerOff();
        y.recover();
        due("again", 0, y::activeBlock);
        due("programs", 1, y::programs);
    }

    private static void newestStandsBelow() {
        says(NEWEST);
        TransactionalFlash x = of(BARE);
        writeTimes(x, 0, 5);
        for (int page = 1; page < 5; page++) {
            x.write(0, page, page);
        }
        writeTimes(x, 0, 11);
        due("block 0 is active again", 0, x::activeBlock);
        due("block 1 has valid pages", 4, () -> x.block(1, 2));
        x.powerOff();
        due("recover", 5, x::recover);
        due("block 0 has the newest page", 0, x::activeBlock);
        due("block 1 still has its pages", 4, () -> x.block(1, 2));
    }

    private static void newestIsACopy() {
        says(NEWEST);
        TransactionalFlash x = interrupted();
        due("the greatest version is in block 1", 9, () -> x.place(1));
        due("the greatest sequence number is that of the copy", 2, x::activeBlock);
        due("the page behind the torn one", 12, () -> {
            x.write(0, 0, 13);
            return x.place(0);
        });
    }

    private static void armRange() {
        says("the number of the flash operation from now on, 1 to 1000; 0 for none");
        TransactionalFlash x = of(BARE);
        x.arm(9);
        says("Throws `IllegalArgumentException` if n is out of range");
        for (int wrong : new int[] {-1, 1001, MIN, MAX}) {
            due("arm(" + wrong + ")", ARGUMENT, () -> x.arm(wrong));
        }
        says("the number of the flash operation from now on, 1 to 1000; 0 for none");
        due("the armed one stays", 9, () -> x.arm(1000));
        due("1000", 1000, () -> x.arm(0));
        due("0 for none", 0, () -> x.arm(1));
        due("1", 1, () -> x.arm(0));
        due("no loss", 1, () -> x.write(0, 0, 1));
        says("Returns the number of flash operations that were still to come up to the one that was armed before, that"
                + " one included; 0 if none was armed.");
        x.arm(3);
        x.write(0, 0, 1);
        due("one of three is done", 2, () -> x.arm(3));
        x.checkpoint();
        due("two of three are done", 1, () -> x.arm(1));
        due("a loss", STATE, x::checkpoint);
        due("it happened", 0, () -> x.arm(0));
        says("Arms a loss of power, in place of one that was armed before.");
        x.recover();
        x.arm(1);
        due("the one in its place", 1, () -> x.arm(2));
        due("not at the first", 5, () -> x.write(0, 0, 1));
        due("but at the second", STATE, () -> x.write(0, 0, 1));
    }

    private static void staysArmed() {
        says(ARMED);
        TransactionalFlash x = of(TINY);
        writeTimes(x, 0, 4);
        x.arm(3);
        x.powerOff();
        due("through powerOff", 3, () -> x.arm(3));
        due("off", STATE, () -> x.write(0, 0, 1));
        due("a refused call is no operation", 3, () -> x.arm(3));
        x.recover();
        due("recovery erases one block", 2, () -> x.arm(2));
        x.write(0, 0, 1);
        x.powerOff();
        due("armed for the next operation", 1, () -> x.arm(1));
        due("which is an erasing in recovery", STATE, x::recover);
        due("it happened", 0, () -> x.arm(0));
        due("losses", 3, x::losses);
        due("recover", 1, x::recover);

        TransactionalFlash y = of(BARE);
        y.arm(2);
        y.begin();
        y.openReader();
        y.closeReader(0);
        y.abort(1);
        due("a wrong page", NO_SUCH, () -> y.write(0, 5, 1));
        due("a wrong value", ARGUMENT, () -> y.write(0, 0, -2));
        due("calls without an operation", 2, () -> y.arm(2));
        y.powerOff();
        y.recover();
        due("recovery without an erasing", 2, () -> y.arm(2));
    }

    private static void withoutAFormat() {
        says("Without a format, nothing is armed.");
        TransactionalFlash x = new TransactionalFlash();
        due("arm", 0, () -> x.arm(1));
        due("arm again", 0, () -> x.arm(1000));
        due("out of range", ARGUMENT, () -> x.arm(-1));
        due("out of range", ARGUMENT, () -> x.arm(1001));
        due("a format", 5, () -> x.format(Checks.feed(x, FULL)));
        due("nothing was armed", 0, () -> x.arm(0));
        says("Throws `IllegalStateException` if the device is on, there is no format, or power is lost");
        TransactionalFlash y = new TransactionalFlash();
        due("no format", STATE, y::recover);
        due("no loss by it", 0, y::losses);
    }

    private static void recoverReturns() {
        says("Returns the number of logical pages whose committed version is not 0.");
        TransactionalFlash x = of(WIDE);
        x.powerOff();
        due("none", 0, x::recover);
        says("Throws `IllegalStateException` if the device is on, there is no format, or power is lost");
        due("on", STATE, x::recover);
        dueOn("it stays on", x);
        says("Returns the number of logical pages whose committed version is not 0.");
        for (int page = 0; page < 64; page++) {
            x.write(0, page, -1);
        }
        x.powerOff();
        due("all, by the map and by pages behind it", 64, x::recover);
        due("a checkpoint was made", 1, x::lastCheckpoint);
        due("behind it", 14, x::commits);

        TransactionalFlash y = of("blocks 32 pages 32 logical 64 every 1;");
        for (int i = 0; i < 128; i++) {
            y.write(0, i % 64, i);
        }
        due("the last page of the flash was programmed", 1, () -> Checks.bit(y.flashPage(1023, 0) != 0));
        due("garbage was collected", 1, () -> Checks.bit(y.erases() > 0));
        y.powerOff();
        due("all, by the map", 64, y::recover);
        due("the 128th checkpoint", 128, y::lastCheckpoint);
        due("none behind it", 0, y::commits);
        due("the first value", 64, () -> y.read(0, 0));
        due("the last value", 127, () -> y.read(0, 63));
    }
}
