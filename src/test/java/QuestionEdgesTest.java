/** The boundaries in promises 19 to 43, the questions. */
public final class QuestionEdgesTest extends Edges {
    private static final int[] NO_PLACES = {-1, 20, 1023, 1024, MIN, MAX};

    public static void main(String[] args) {
        withoutAFormat();
        sizes();
        version();
        place();
        lockedBy();
        transactions();
        locks();
        readers();
        activeBlock();
        freeBlocks();
        validPages();
        block();
        blockCounts();
        flashPage();
        isValid();
        programsAndCopies();
        erases();
        writes();
        wearGap();
        lastCheckpoint();
        commits();
        losses();
        victim();
        victimOfTheActiveBlock();
        end("QuestionEdgesTest");
    }

    private static TransactionalFlash off(String text) {
        TransactionalFlash x = of(text);
        x.powerOff();
        return x;
    }

    private static void withoutAFormat() {
        says("Creates a device without a format.");
        TransactionalFlash x = new TransactionalFlash();
        dueOff("new", x);
        says("questions (without a format, numbers are 0 and there are no elements)");
        due("logicalPages", 0, x::logicalPages);
        due("blocks", 0, x::blocks);
        due("pagesPerBlock", 0, x::pagesPerBlock);
        due("transactions", 0, x::transactions);
        due("readers", 0, x::readers);
        due("freeBlocks", 0, x::freeBlocks);
        due("validPages", 0, x::validPages);
        due("programs", 0, x::programs);
        due("erases", 0, x::erases);
        due("copies", 0, x::copies);
        due("writes", 0, x::writes);
        due("wearGap", 0, x::wearGap);
        due("lastCheckpoint", 0, x::lastCheckpoint);
        due("commits", 0, x::commits);
        due("losses", 0, x::losses);
        due("activeBlock", -1, x::activeBlock);
        due("victim", -1, x::victim);
        for (int element : new int[] {-1, 0, 1, MIN, MAX}) {
            due("version", NO_SUCH, () -> x.version(element));
            due("place", NO_SUCH, () -> x.place(element));
            due("lockedBy", NO_SUCH, () -> x.lockedBy(element));
            due("state", NO_SUCH, () -> x.state(element));
            due("locks", NO_SUCH, () -> x.locks(element));
            due("block", NO_SUCH, () -> x.block(element, 0));
            due("flashPage", NO_SUCH, () -> x.flashPage(element, 0));
            due("isValid", NO_SUCH, () -> Checks.bit(x.isValid(element)));
            due("readBy", NO_SUCH, () -> x.readBy(element, 0));
            due("closeReader", NO_SUCH, () -> x.closeReader(element));
        }
    }

    private static void sizes() {
        TransactionalFlash x = of(WIDE);
        TransactionalFlash y = off(TINY);
        says("Returns the number of logical pages.");
        due("the most", 64, x::logicalPages);
        due("the least, off", 1, y::logicalPages);
        says("Returns B.");
        due("the most", 32, x::blocks);
        due("off", 5, y::blocks);
        due("the least", 4, () -> of(BARE).blocks());
        says("`int pagesPerBlock()`: Returns P.");
        due("the most", 32, x::pagesPerBlock);
        due("the least, off", 2, y::pagesPerBlock);
    }

    private static void version() {
        says("Returns its committed version; -1 if the device is off.");
        TransactionalFlash x = of("blocks 4 pages 5 logical 5 every 50; fill 1 2;");
        due("the first", 1, () -> x.version(0));
        due("the second", 2, () -> x.version(1));
        due("none", 0, () -> x.version(4));
        x.begin();
        x.write(1, 0, 9);
        due("not the shadow", 1, () -> x.version(0));
        says("Throws `NoSuchElementException` if there is no such logical page");
        for (int page : new int[] {-1, 5, 63, 64, MIN, MAX}) {
            due("version of " + page, NO_SUCH, () -> x.version(page));
            due("place of " + page, NO_SUCH, () -> x.place(page));
            due("lockedBy of " + page, NO_SUCH, () -> x.lockedBy(page));
        }
        x.powerOff();
        for (int page : new int[] {-1, 5, 63, 64, MIN, MAX}) {
            due("off, version of " + page, NO_SUCH, () -> x.version(page));
            due("off, place of " + page, NO_SUCH, () -> x.place(page));
            due("off, lockedBy of " + page, NO_SUCH, () -> x.lockedBy(page));
        }
        says("Returns its committed version; -1 if the device is off.");
        due("off", -1, () -> x.version(0));
        due("off, none", -1, () -> x.version(4));
    }

    private static void place() {
        says("Returns block * P + page of the valid data page with its committed version; -1 if the version is 0 or"
                + " the device is off.");
        TransactionalFlash x = of("blocks 4 pages 5 logical 5 every 50; fill 1 2;");
        due("the first place", 0, () -> x.place(0));
        due("version 0", -1, () -> x.place(4));
        x.begin();
        x.write(1, 4, 9);
        due("a shadow has no place", -1, () -> x.place(4));
        x.commit(1);
        due("committed", 2, () -> x.place(4));
        writeTimes(x, 0, 2);
        due("the first page of block 1", 5, () -> x.place(0));
        x.powerOff();
        due("off", -1, () -> x.place(0));
        due("off, version 0", -1, () -> x.place(3));
        x.recover();
        due("on again", 5, () -> x.place(0));
    }

    private static void lockedBy() {
        says("Returns the transaction by which it is locked; 0 if it is not locked or the device is off.");
        TransactionalFlash x = of(BARE);
        for (int i = 0; i < 6; i++) {
            x.begin();
        }
        x.write(6, 4, 1);
        x.write(1, 0, 1);
        due("by the last", 6, () -> x.lockedBy(4));
        due("by the first", 1, () -> x.lockedBy(0));
        due("not locked", 0, () -> x.lockedBy(1));
        x.powerOff();
        due("off", 0, () -> x.lockedBy(4));
    }

    private static void transactions() {
        says("Returns the number of transactions that have begun.");
        TransactionalFlash x = of(BARE);
        due("none", 0, x::transactions);
        x.begin();
        x.begin();
        x.abort(1);
        x.commit(2);
        due("also those that are not open", 2, x::transactions);
        x.powerOff();
        due("off", 2, x::transactions);
        says("Returns the state of a transaction.");
        due("off", 3, () -> x.state(1));
        due("off", 2, () -> x.state(2));
        says("Throws `NoSuchElementException` if there is no such transaction");
        for (int number : new int[] {-1, 0, 3, 1000, 1001, MIN, MAX}) {
            due("state of " + number, NO_SUCH, () -> x.state(number));
            due("locks of " + number, NO_SUCH, () -> x.locks(number));
        }
    }

    private static void locks() {
        says("Returns the number of logical pages that a transaction has locked; 0 if the device is off.");
        TransactionalFlash x = of("blocks 6 pages 5 logical 5 every 50;");
        for (int i = 0; i < 3; i++) {
            x.begin();
        }
        due("none", 0, () -> x.locks(1));
        for (int page = 0; page < 5; page++) {
            x.write(1, page, 1);
            x.write(1, page, 2);
        }
        due("all, written twice", 5, () -> x.locks(1));
        due("another one", 0, () -> x.locks(2));
        x.commit(1);
        due("committed", 0, () -> x.locks(1));
        x.write(2, 0, 1);
        x.abort(2);
        due("aborted", 0, () -> x.locks(2));
        x.write(3, 0, 1);
        x.powerOff();
        due("off", 0, () -> x.locks(3));
        x.recover();
        due("lost", 0, () -> x.locks(3));
    }

    private static void readers() {
        says("Returns the set of open readers, as bits.");
        TransactionalFlash x = of(BARE);
        due("none", 0, x::readers);
        int[] bits = {1, 3, 7, 15};
        for (int due : bits) {
            x.openReader();
            due("opened", due, x::readers);
        }
        x.closeReader(0);
        due("bit 0", 14, x::readers);
        x.closeReader(3);
        due("bit 3", 6, x::readers);
        x.powerOff();
        due("off", 0, x::readers);
    }

    private static void activeBlock() {
        says("Returns the active block; -1 if there is none or the device is off (ahead of the first format, too).");
        due("ahead of the first format", -1, () -> new TransactionalFlash().activeBlock());
        TransactionalFlash x = of(BARE);
        due("none", -1, x::activeBlock);
        x.write(0, 0, 1);
        due("block 0", 0, x::activeBlock);
        writeTimes(x, 0, 4);
        due("full", 0, x::activeBlock);
        x.powerOff();
        due("off", -1, x::activeBlock);
        x.recover();
        due("none, as the newest is full", -1, x::activeBlock);
    }

    private static void freeBlocks() {
        says("Returns the number of free blocks.");
        TransactionalFlash x = of(BARE);
        due("all", 4, x::freeBlocks);
        x.write(0, 0, 1);
        due("all but the active one", 3, x::freeBlocks);
        x.powerOff();
        due("off", 3, x::freeBlocks);
        due("off, all", 4, () -> off(BARE).freeBlocks());
    }

    private static void validPages() {
        says("Returns the number of valid pages; 0 if the device is off.");
        TransactionalFlash x = of(BARE);
        due("none", 0, x::validPages);
        x.checkpoint();
        x.begin();
        x.write(1, 0, 1);
        x.commit(1);
        due("a map, an end, a commit and a data page", 4, x::validPages);
        x.powerOff();
        due("off", 0, x::validPages);
        x.recover();
        due("on again", 4, x::validPages);
    }

    private static void block() {
        says("Throws `NoSuchElementException` if there is no such block");
        TransactionalFlash x = of(BARE);
        for (int block : new int[] {-1, 4, 31, 32, MIN, MAX}) {
            due("block " + block, NO_SUCH, () -> x.block(block, 0));
            due("block " + block + ", what 4", NO_SUCH, () -> x.block(block, 4));
        }
        due("the last block", 0, () -> x.block(3, 0));
        due("the last block of 32", 0, () -> of(WIDE).block(31, 3));
        due("none behind it", NO_SUCH, () -> of(WIDE).block(32, 3));
        says("Throws `IllegalArgumentException` if what is out of range");
        for (int what : new int[] {-1, 4, 5, MIN, MAX}) {
            due("block, what " + what, ARGUMENT, () -> x.block(0, what));
            due("block, off, what " + what, ARGUMENT, () -> off(BARE).block(0, what));
        }
        for (int what : new int[] {-1, 6, 7, MIN, MAX}) {
            due("flashPage, what " + what, ARGUMENT, () -> x.flashPage(0, what));
            due("flashPage, off, what " + what, ARGUMENT, () -> off(BARE).flashPage(19, what));
        }
    }

    private static void blockCounts() {
        says("0 its erase count, 1 the number of its pages that are not free, 2 that of its valid pages (0 if the"
                + " device is off), 3 that of its torn pages");
        TransactionalFlash x = of(TINY);
        writeTimes(x, 0, 7);
        int[][] due = {{1, 0, 0, 0}, {0, 2, 0, 0}, {0, 2, 0, 0}, {0, 1, 1, 0}, {0, 0, 0, 0}};
        for (int b = 0; b < 5; b++) {
            for (int w = 0; w < 4; w++) {
                int block = b;
                int what = w;
                due("block " + b + ", what " + w, due[b][w], () -> x.block(block, what));
            }
        }
        x.arm(1);
        due("a loss", STATE, () -> x.write(0, 0, 1));
        int[] torn = {0, 2, 0, 1};
        for (int w = 0; w < 4; w++) {
            int what = w;
            due("off, what " + w, torn[w], () -> x.block(3, what));
        }
        x.recover();
        due("on, valid", 1, () -> x.block(3, 2));
        due("on, torn", 1, () -> x.block(3, 3));
    }

    private static void flashPage() {
        says("0 its kind (0 free, 5 torn), 1 the index, 2 the group, 3 the version, 4 the sequence number (-1 each if it"
                + " is free or torn), 5 the value of a data page (-2 for other kinds and for pages that are free or"
                + " torn)");
        TransactionalFlash x = of(BARE);
        x.begin();
        x.write(0, 4, 0);
        x.write(1, 0, -1);
        x.commit(1);
        x.checkpoint();
        x.arm(1);
        due("a loss", STATE, () -> x.write(0, 0, 1));
        duePage("data", x, 0, 1, 4, 0, 1, 1, 0);
        duePage("a removed value", x, 1, 1, 0, 1, 2, 2, -1);
        duePage("commit", x, 2, 2, 1, 1, 3, 3, -2);
        duePage("map", x, 3, 3, 0, 1, 4, 4, -2);
        duePage("end", x, 4, 4, 0, 1, 5, 5, -2);
        duePage("torn", x, 5, 5, -1, -1, -1, -1, -2);
        duePage("free", x, 6, 0, -1, -1, -1, -1, -2);
        duePage("the last page", x, 19, 0, -1, -1, -1, -1, -2);
        says("Throws `NoSuchElementException` if there is no such page");
        for (int place : NO_PLACES) {
            due("flashPage of " + place, NO_SUCH, () -> x.flashPage(place, 0));
            due("flashPage of " + place + ", what 6", NO_SUCH, () -> x.flashPage(place, 6));
            due("isValid of " + place, NO_SUCH, () -> Checks.bit(x.isValid(place)));
        }
        due("the last page of 1024", 0, () -> of(WIDE).flashPage(1023, 0));
        due("none behind it", NO_SUCH, () -> of(WIDE).flashPage(1024, 0));
        due("none behind it", NO_SUCH, () -> Checks.bit(of(WIDE).isValid(1024)));
    }

    private static void isValid() {
        says("Returns whether this page is valid; false if the device is off.");
        TransactionalFlash x = of(FULL);
        dueValid("the first", 1, x, 0);
        dueValid("the last", 0, x, 19);
        x.powerOff();
        dueValid("off", 0, x, 0);
        x.recover();
        dueValid("on again", 1, x, 0);
    }

    private static void programsAndCopies() {
        TransactionalFlash x = of("blocks 4 pages 5 logical 4 every 50; fill 10 20;");
        writeTimes(x, 3, 9);
        says("Returns the number of pages that were programmed (copies included, torn ones not).");
        due("eleven writes and a copy", 12, x::programs);
        says("Returns the number of copies that were programmed.");
        due("one", 1, x::copies);
        writeTimes(x, 3, 3);
        x.arm(1);
        due("a torn copy", STATE, () -> x.write(0, 3, 1));
        due("torn ones are not counted", 1, x::copies);
        says("Returns the number of pages that were programmed (copies included, torn ones not).");
        due("torn ones are not counted", 15, x::programs);
    }

    private static void erases() {
        says("Returns the number of blocks that were erased.");
        TransactionalFlash x = of(TINY);
        writeTimes(x, 0, 6);
        due("none", 0, x::erases);
        x.write(0, 0, 1);
        due("by collecting", 1, x::erases);
        x.powerOff();
        x.recover();
        due("by recovery", 3, x::erases);
        writeTimes(x, 0, 1);
        x.powerOff();
        x.arm(1);
        due("no block is without a valid page", 1, x::recover);
        due("as they were", 3, x::erases);
    }

    private static void writes() {
        says("Returns the number of writes that returned a version (those of format included).");
        TransactionalFlash x = of("blocks 4 pages 5 logical 5 every 4; fill 1 2;");
        due("those of format", 2, x::writes);
        x.begin();
        x.write(1, 0, 1);
        x.write(0, 1, 1);
        due("inside and outside", 4, x::writes);
        due("a wrong page", NO_SUCH, () -> x.write(0, 5, 1));
        due("a wrong value", ARGUMENT, () -> x.write(0, 0, -2));
        due("a locked page", STATE, () -> x.write(0, 0, 1));
        due("refused ones are not counted", 4, x::writes);
        x.commit(1);
        x.checkpoint();
        due("a commit and a checkpoint are not counted", 4, x::writes);
        x.arm(1);
        due("a torn page", STATE, () -> x.write(0, 0, 1));
        due("a torn one is not counted", 4, x::writes);
        x.recover();
        due("nor by recovery", 4, x::writes);
    }

    private static void wearGap() {
        says("Returns the greatest erase count minus the least one.");
        TransactionalFlash x = of(TINY);
        due("none", 0, x::wearGap);
        writeTimes(x, 0, 7);
        due("one block", 1, x::wearGap);
        writeTimes(x, 0, 6);
        due("four blocks", 1, x::wearGap);
        writeTimes(x, 0, 2);
        due("the least counts, too", 0, x::wearGap);
        TransactionalFlash z = of(FULL);
        writeTimes(z, 0, 6);
        due("block 1 alone", 1, () -> z.block(1, 0));
        due("block 1 alone", 1, z::wearGap);
        TransactionalFlash y = of(FULL);
        writeTimes(y, 0, 60);
        due("block 0 is never erased", 0, () -> y.block(0, 0));
        due("the greatest count of the others", Math.max(y.block(1, 0), Math.max(y.block(2, 0), y.block(3, 0))),
                y::wearGap);
        y.powerOff();
        due("off", 1, () -> Checks.bit(y.wearGap() > 1));
    }

    private static void lastCheckpoint() {
        says("Returns the number of the latest complete checkpoint; 0 if there is none or the device is off.");
        TransactionalFlash x = of(BARE);
        due("none", 0, x::lastCheckpoint);
        x.checkpoint();
        due("the first", 1, x::lastCheckpoint);
        x.arm(2);
        due("one that is not complete", STATE, x::checkpoint);
        due("off", 0, x::lastCheckpoint);
        x.recover();
        due("the first again", 1, x::lastCheckpoint);
    }

    private static void commits() {
        says("Returns the number of commits (section 2); 0 if the device is off.");
        TransactionalFlash x = of("blocks 4 pages 5 logical 5 every 3; fill 1 2;");
        due("those of format", 2, x::commits);
        x.powerOff();
        due("off", 0, x::commits);
        x.recover();
        due("on again", 2, x::commits);
        x.write(0, 0, 1);
        due("the third makes a checkpoint", 0, x::commits);
    }

    private static void losses() {
        says("Returns the number of losses of power so far.");
        TransactionalFlash x = of(TINY);
        due("none", 0, x::losses);
        x.powerOff();
        due("by powerOff", 1, x::losses);
        due("off", STATE, x::powerOff);
        due("off already", 1, x::losses);
        x.recover();
        writeTimes(x, 0, 5);
        x.arm(1);
        due("at a page", STATE, () -> x.write(0, 0, 1));
        due("at a page", 2, x::losses);
        x.arm(1);
        due("in recovery", STATE, x::recover);
        due("in recovery", 3, x::losses);
        x.recover();
        due("recovery is none", 3, x::losses);
        due("a refused call is none", STATE, x::recover);
        due("a refused call is none", 3, x::losses);
    }

    private static void victim() {
        says("Returns the block that would be collected first if the free block of step (1) of section 3 became the"
                + " active block now; -1 if none would be, no block is free, or the device is off (ahead of the first"
                + " format, too).");
        due("ahead of the first format", -1, () -> new TransactionalFlash().victim());
        TransactionalFlash x = of(TINY);
        due("all blocks are free", -1, x::victim);
        writeTimes(x, 0, 4);
        due("two blocks would be free", -1, x::victim);
        x.write(0, 0, 1);
        due("one block would be free", 0, x::victim);
        due("asking changes nothing", 0, x::erases);
        due("asking changes nothing", 2, x::activeBlock);
        due("asked again", 0, x::victim);
        x.powerOff();
        due("off", -1, x::victim);
    }

    private static void victimOfTheActiveBlock() {
        says("Returns the block that would be collected first if the free block of step (1) of section 3 became the"
                + " active block now; -1 if none would be, no block is free, or the device is off (ahead of the first"
                + " format, too).");
        TransactionalFlash x = of(FULL);
        due("block 0 is full of valid pages, and two blocks would be free", -1, x::victim);
        x.write(0, 0, 6);
        due("the active block has the fewest", 1, x::victim);
        x.write(0, 1, 6);
        due("two in it, three in block 0", 1, x::victim);
        x.write(0, 2, 6);
        due("three in it, two in block 0", 0, x::victim);
        writeTimes(x, 2, 2);
        due("it is full", 0, x::victim);
        x.write(0, 3, 6);
        due("the one that was told", 1, () -> x.block(0, 0));
    }
}
