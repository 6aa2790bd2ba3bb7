import java.util.List;

/** The boundaries in section 3, VALID PAGES AND GARBAGE. */
public final class GarbageEdgesTest extends Edges {
    private static final String ROOM = "A method that programs n pages (copies are not counted) throws an"
            + " IllegalStateException, and nothing changes, if the number of valid pages plus n is greater than"
            + " (B - 2) * P at its beginning.";
    private static final String PAGES = "For this, n of a commit or of a write outside transactions is 1, and M + 2 if"
            + " a checkpoint follows; n of a write in a transaction is 1; n of a checkpoint is M + 1.";
    private static final String COLLECT = "as long as fewer than 2 blocks are free, a block is collected: of all"
            + " blocks that are not free and not the active one, and that have fewer valid pages than the active block"
            + " has free pages, the one with the fewest valid pages, then with the least erase count, then the lowest"
            + " one.";
    // The seventh commit makes a checkpoint; the values are five of them.
    private static final String SEVEN = "blocks 4 pages 5 logical 5 every 7; fill 1 2 3 4 5;";
    private static final String ELEVEN = "blocks 4 pages 8 logical 9 every 11; fill 1 2 3 4 5 6 7 8 9;";

    public static void main(String[] args) {
        validData();
        validCommits();
        validCheckpoints();
        checkpointInTheMaking();
        latestOneWhileTheNextIsMade();
        endPageMakesComplete();
        newestCopy();
        lowestFreePage();
        leastWornBlock();
        twoFreeBlocks();
        noneOrOneFreeBlock();
        fewerThanFreePages();
        fewestValidPages();
        leastEraseCount();
        copiesInAscendingOrder();
        roomOfAWrite();
        roomOfACommit();
        roomWithACheckpoint();
        roomWithTwoParts();
        roomOfACheckpoint();
        nothingChanges();
        copiesAreNotCounted();
        end("GarbageEdgesTest");
    }

    private static void validData() {
        says("data pages whose version is the committed version of their logical page, or its shadow version in an open"
                + " transaction, or its version in an open reader;");
        TransactionalFlash x = of(BARE);
        x.begin();
        x.begin();
        x.write(0, 0, 1);
        x.openReader();
        x.openReader();
        x.write(0, 0, 2);
        x.write(1, 1, 3);
        x.write(2, 2, 4);
        dueValid("in two readers", 1, x, 0);
        dueValid("committed", 1, x, 1);
        dueValid("in the shadow", 1, x, 2);
        dueValid("free", 0, x, 4);
        x.closeReader(0);
        dueValid("in one reader", 1, x, 0);
        x.closeReader(1);
        dueValid("in none", 0, x, 0);
        x.write(1, 1, 5);
        dueValid("an earlier shadow", 0, x, 2);
        x.abort(2);
        dueValid("the shadow of one that was aborted", 0, x, 3);
        x.commit(1);
        dueValid("the shadow of one that was committed", 1, x, 4);
        x.write(0, 1, 6);
        dueValid("written over", 0, x, 4);
        x.begin();
        x.write(3, 0, 7);
        x.commit(3);
        dueValid("the first version of all, in none", 0, x, 0);
        dueValid("written over by a commit", 0, x, 1);
        due("two pages and two commit pages", 4, x::validPages);
    }

    private static void validCommits() {
        says("commit pages whose version is greater than that of the end page of the latest complete checkpoint (0"
                + " without one);");
        TransactionalFlash x = of(BARE);
        x.begin();
        x.begin();
        x.write(1, 0, 1);
        x.commit(1);
        dueValid("without a checkpoint", 1, x, 1);
        x.checkpoint();
        dueValid("ahead of the end page", 0, x, 1);
        x.write(2, 1, 1);
        x.commit(2);
        dueValid("behind the end page", 1, x, 5);
        x.arm(2);
        due("a checkpoint that is not complete", STATE, x::checkpoint);
        dueValid("off", 0, x, 5);
        x.recover();
        dueValid("ahead of the end page, after recovery", 0, x, 1);
        dueValid("behind the end page, after recovery", 1, x, 5);
        x.checkpoint();
        dueValid("ahead of the next end page", 0, x, 5);
    }

    private static void validCheckpoints() {
        says("the map pages and the end page of the latest complete checkpoint, and the map pages of a checkpoint that"
                + " is being made.");
        TransactionalFlash x = of(PARTS);
        x.checkpoint();
        due("two parts and the end", 3, x::validPages);
        x.checkpoint();
        due("those of the latest one alone", 3, x::validPages);
        for (int place = 0; place < 6; place++) {
            dueValid("page " + place, place < 3 ? 0 : 1, x, place);
        }
        x.arm(3);
        due("a checkpoint that is not complete", STATE, x::checkpoint);
        due("off", 0, x::validPages);
        x.recover();
        due("the latest complete one", 3, x::validPages);
        dueValid("of the complete one", 1, x, 5);
        dueValid("a part of the one that is made no more", 0, x, 6);
    }

    private static void checkpointInTheMaking() {
        says("the map pages and the end page of the latest complete checkpoint, and the map pages of a checkpoint that"
                + " is being made.");
        TransactionalFlash x = of("blocks 4 pages 8 logical 9 every 50; fill 1 2 3 4 5 6 7 8;");
        writeTimes(x, 8, 7);
        due("garbage is collected behind the first map page", 1, x::checkpoint);
        due("the value in page 8 and the map page are copied", 2, x::copies);
        duePage("the copy of the map page", x, 17, 3, 0, 1, 16, 18, -2);
        duePage("the second map page", x, 18, 3, 1, 1, 19, 19, -2);
        duePage("the end page", x, 19, 4, 0, 1, 20, 20, -2);
        x.powerOff();
        due("the copy holds what the map page held", 9, x::recover);
        due("version 0", 1, () -> x.version(0));
        due("version 7", 8, () -> x.version(7));
        due("version 8", 15, () -> x.version(8));
        due("all of it is from the map", 0, x::commits);
    }

    private static void latestOneWhileTheNextIsMade() {
        says("the map pages and the end page of the latest complete checkpoint, and the map pages of a checkpoint that"
                + " is being made.");
        TransactionalFlash x = of("blocks 4 pages 8 logical 9 every 50; fill 1 2 3 4 5 6 7 8;");
        x.checkpoint();
        writeTimes(x, 8, 4);
        x.arm(9);
        due("a loss at the end page", STATE, x::checkpoint);
        due("copies of the latest one, of a value and of the one that is being made", 5, x::copies);
        duePage("the first map page of the latest one", x, 16, 3, 0, 1, 9, 17, -2);
        duePage("its end page", x, 18, 4, 0, 1, 11, 19, -2);
        duePage("the first map page of the next one", x, 20, 3, 0, 2, 16, 21, -2);
        duePage("its second map page", x, 21, 3, 1, 2, 22, 22, -2);
        due("recover", 9, x::recover);
        due("the latest one", 1, x::lastCheckpoint);
        due("what its map holds", 1, () -> x.version(0));
        due("the copy of the value behind it", 15, () -> x.version(8));
        due("commits", 1, x::commits);
        dueValid("the copy of its map page", 1, x, 16);
        dueValid("the copy of its end page", 1, x, 18);
        dueValid("that of the one that was not completed", 0, x, 20);
    }

    private static void endPageMakesComplete() {
        says("A checkpoint is complete when its end page has been programmed.");
        TransactionalFlash x = of("blocks 4 pages 8 logical 9 every 50; fill 1 2 3;");
        for (int n = 1; n <= 3; n++) {
            x.arm(n);
            due("a loss at page " + n, STATE, x::checkpoint);
            x.recover();
            due("not complete", 0, x::lastCheckpoint);
            due("the commits are not forgotten", 3, x::commits);
            due("no map page is valid", 3, x::validPages);
        }
        x.arm(4);
        due("a loss behind the end page", 4, x::checkpoint);
        due("complete", 4, x::lastCheckpoint);
        due("one operation is still to come", 1, () -> x.arm(0));
    }

    private static void newestCopy() {
        says("If there is a copy of a page (with the same kind, group, index and version), only the one with the"
                + " greatest sequence number is valid.");
        TransactionalFlash x = interrupted();
        duePage("the page", x, 2, 1, 2, 0, 3, 3, 3);
        duePage("its copy", x, 10, 1, 2, 0, 3, 11, 3);
        dueValid("the page", 0, x, 2);
        dueValid("its copy", 1, x, 10);
        due("its place", 10, () -> x.place(2));
        due("its value", 3, () -> x.read(0, 2));
        dueValid("the page behind it, not copied yet", 1, x, 3);
        due("valid in block 0", 2, () -> x.block(0, 2));
        due("five values and the checkpoint", 7, x::validPages);
    }

    private static void lowestFreePage() {
        says("A page is programmed in the active block, in the lowest free page. If there is no active block, or it is"
                + " full, room is made first:");
        TransactionalFlash x = of(TINY);
        due("no active block at first", -1, x::activeBlock);
        x.write(0, 0, 1);
        due("the first page of the first block", 0, () -> x.place(0));
        x.write(0, 0, 2);
        due("the lowest free page", 1, () -> x.place(0));
        due("a full block stays active", 0, x::activeBlock);
        x.write(0, 0, 3);
        due("it was full", 2, () -> x.place(0));
        x.arm(1);
        due("a torn page", STATE, () -> x.write(0, 0, 4));
        x.recover();
        due("no active block", -1, x::activeBlock);
        x.write(0, 0, 5);
        due("the least worn block, as block 0 was erased", 4, () -> x.place(0));

        TransactionalFlash y = of(TINY);
        writeTimes(y, 0, 9);
        y.begin();
        y.write(1, 0, 70);
        due("a commit that makes room", 1, () -> y.commit(1));
        duePage("the first page of all is the commit page", y, 0, 2, 1, 1, 11, 11, -2);
        due("the shadow is committed", 10, () -> y.version(0));
    }

    private static void leastWornBlock() {
        says("the free block with the least erase count becomes the active block, the lowest one of several;");
        TransactionalFlash x = of(FULL);
        due("of all", 0, x::activeBlock);
        writeTimes(x, 0, 9);
        due("blocks 1 and 3 are free", 2, x::freeBlocks);
        due("block 1 was erased", 1, () -> x.block(1, 0));
        x.write(0, 0, 9);
        due("the one with the least count, not the lowest", 3, x::activeBlock);
        writeTimes(x, 0, 3);
        due("block 1", 1, () -> x.block(1, 0));
        due("block 2", 1, () -> x.block(2, 0));
        x.write(0, 0, 9);
        due("the lowest of two with the same count", 1, x::activeBlock);
    }

    private static void twoFreeBlocks() {
        says(COLLECT);
        TransactionalFlash x = of(TINY);
        writeTimes(x, 0, 4);
        due("three blocks are free", 3, x::freeBlocks);
        due("then two, and none is collected", -1, x::victim);
        x.write(0, 0, 1);
        due("no block was erased", 0, x::erases);
        due("two blocks are free", 2, x::freeBlocks);
        due("then one, and one is collected", 0, x::victim);
        x.write(0, 0, 1);
        due("not as long as the active block has a free page", 0, x::erases);
        x.write(0, 0, 1);
        due("one was erased", 1, x::erases);
        due("two blocks are free", 2, x::freeBlocks);
    }

    private static void noneOrOneFreeBlock() {
        says(COLLECT);
        TransactionalFlash x = interrupted();
        x.write(0, 2, 20);
        x.write(0, 3, 21);
        x.write(0, 4, 22);
        due("one block is free", 1, x::freeBlocks);
        due("the first that is collected", 0, x::victim);
        due("two blocks are collected", 18, () -> x.write(0, 0, 23));
        due("block 0", 0, () -> x.block(0, 1));
        due("block 2", 0, () -> x.block(2, 1));
        due("block 1 is not", 5, () -> x.block(1, 1));
        due("two blocks are free", 2, x::freeBlocks);
        due("the block of the copies is active", 3, x::activeBlock);
        due("copies", 4, x::copies);
        due("the page is behind them", 18, () -> x.place(0));
        duePage("the first copy of the second block", x, 15, 1, 2, 0, 12, 15, 20);
    }

    private static void fewerThanFreePages() {
        says(COLLECT);
        TransactionalFlash x = of(FULL);
        x.begin();
        for (int page = 0; page < 4; page++) {
            x.write(1, page, 9);
        }
        x.write(1, 3, 9);
        due("block 0 has as many valid pages as the new block has free ones", 5, () -> x.block(0, 2));
        due("block 1 has one fewer", 4, () -> x.block(1, 2));
        due("victim", 1, x::victim);
        due("it is collected", 15, () -> x.write(1, 3, 9));
        due("its pages are copied", 4, x::copies);
        duePage("the last page is left for the write", x, 14, 1, 3, 1, 15, 15, 9);
        due("the block is full again", 5, () -> x.block(2, 1));

        says("If there is none, this step ends.");
        TransactionalFlash y = interrupted();
        y.begin();
        y.write(1, 2, 20);
        y.write(1, 2, 21);
        y.write(1, 3, 22);
        due("one block is free", 1, y::freeBlocks);
        due("block 0 has two valid pages", 2, () -> y.block(0, 2));
        due("block 2 has three", 3, () -> y.block(2, 2));
        due("behind two copies, three pages are free: none has fewer", 17, () -> y.write(1, 4, 23));
        due("block 0 was collected", 0, () -> y.block(0, 1));
        due("block 2 was not", 5, () -> y.block(2, 1));
        due("still one block is free", 1, y::freeBlocks);
        dueOn("and power is not lost", y);
    }

    private static void fewestValidPages() {
        says(COLLECT);
        TransactionalFlash x = of("blocks 4 pages 5 logical 4 every 50; fill 10 20;");
        writeTimes(x, 3, 8);
        due("block 0 has two valid pages", 2, () -> x.block(0, 2));
        due("block 1 has one", 1, () -> x.block(1, 2));
        due("the fewest, not the lowest", 1, x::victim);

        TransactionalFlash y = of(FULL);
        writeTimes(y, 0, 17);
        due("block 0 was never erased", 0, () -> y.block(0, 0));
        due("block 0 has four valid pages", 4, () -> y.block(0, 2));
        due("block 1 was erased", 1, () -> y.block(1, 0));
        due("block 1 has one", 1, () -> y.block(1, 2));
        due("the fewest ahead of the least erase count", 1, y::victim);
    }

    private static void leastEraseCount() {
        says(COLLECT);
        TransactionalFlash x = of(TINY);
        int[] victims = {0, 1, 2, 3, 4, 0};
        writeTimes(x, 0, 6);
        for (int i = 0; i < victims.length; i++) {
            int block = victims[i];
            due("after " + x.writes() + " writes", block, x::victim);
            int before = x.block(block, 0);
            x.write(0, 0, 1);
            due("it is erased", before + 1, () -> x.block(block, 0));
            due("its pages are free", 0, () -> x.block(block, 1));
            x.write(0, 0, 1);
        }
    }

    private static void copiesInAscendingOrder() {
        says("Collecting a block programs a copy of each of its valid pages, in ascending order, in the active block"
                + " (the kind, the index, the group, the version and what it holds are the same; the sequence number is"
                + " new), and erases the block.");
        TransactionalFlash x = of("blocks 4 pages 6 logical 5 every 50;");
        x.begin();
        x.begin();
        x.write(0, 4, 60);
        x.write(1, 0, 70);
        x.checkpoint();
        x.commit(1);
        x.write(0, 1, 71);
        x.write(0, 1, 72);
        x.write(0, 2, 73);
        x.write(0, 3, 74);
        for (int page = 1; page < 4; page++) {
            x.write(2, page, 75);
        }
        due("the write behind the copies", 18, () -> x.write(2, 4, 78));
        duePage("data outside transactions", x, 12, 1, 4, 0, 1, 13, 60);
        duePage("data of a transaction", x, 13, 1, 0, 1, 2, 14, 70);
        duePage("map", x, 14, 3, 0, 1, 3, 15, -2);
        duePage("end", x, 15, 4, 0, 1, 4, 16, -2);
        duePage("commit", x, 16, 2, 1, 1, 5, 17, -2);
        duePage("no copy of a page that was not valid", x, 17, 1, 4, 2, 18, 18, 78);
        due("the block was erased", 1, () -> x.block(0, 0));
        due("all copies are valid", 6, () -> x.block(2, 2));
        due("the place of a copy", 13, () -> x.place(0));
        due("its version", 2, () -> x.version(0));
        due("the latest checkpoint", 1, x::lastCheckpoint);
        x.powerOff();
        due("all is recovered from the copies", 5, x::recover);
        due("by the map", 60, () -> x.read(0, 4));
        due("by the commit", 70, () -> x.read(0, 0));
        due("the commit page and three pages behind it", 4, x::commits);
        due("the latest checkpoint", 1, x::lastCheckpoint);
    }

    private static void roomOfAWrite() {
        says(PAGES);
        TransactionalFlash x = of(FULL);
        x.begin();
        for (int page = 0; page < 5; page++) {
            int due = 6 + page;
            int next = page;
            due("a write in a transaction with " + (5 + page) + " valid pages", due, () -> x.write(1, next, 9));
        }
        due("valid pages", 10, x::validPages);
        due("in a transaction with 10", STATE, () -> x.write(1, 0, 9));

        TransactionalFlash y = of(FULL);
        y.openReader();
        for (int page = 0; page < 5; page++) {
            int due = 6 + page;
            int next = page;
            due("a write outside with " + (5 + page) + " valid pages", due, () -> y.write(0, next, 9));
        }
        due("valid pages", 10, y::validPages);
        due("outside with 10", STATE, () -> y.write(0, 0, 9));
        y.closeReader(0);
        due("outside with 5", 11, () -> y.write(0, 0, 9));
    }

    private static TransactionalFlash shadows(String text, int outside, int inside) {
        TransactionalFlash x = of(text);
        writeTimes(x, 0, outside);
        x.begin();
        for (int page = 1; page <= inside; page++) {
            x.write(1, page, 9);
        }
        return x;
    }

    private static void roomOfACommit() {
        says(PAGES);
        TransactionalFlash x = shadows(FULL, 0, 4);
        due("valid pages", 9, x::validPages);
        due("a commit with 9", 4, () -> x.commit(1));
        TransactionalFlash y = shadows(FULL, 0, 4);
        y.write(1, 0, 9);
        due("valid pages", 10, y::validPages);
        due("a commit with 10", STATE, () -> y.commit(1));
        due("it is open", 1, () -> y.state(1));
        due("it can be aborted without room", 5, () -> y.abort(1));
        TransactionalFlash z = shadows(FULL, 0, 4);
        z.begin();
        z.write(2, 0, 9);
        due("a commit of one page with 10", STATE, () -> z.commit(2));
        due("it is open", 1, () -> z.state(2));
        says(ROOM);
        due("a reader needs no room", 0, y::openReader);
        due("nor does a transaction that begins", 2, y::begin);
    }

    private static void roomWithACheckpoint() {
        says(PAGES);
        TransactionalFlash x = shadows(SEVEN, 1, 2);
        due("a write outside, the seventh, with 7 valid pages", 9, () -> x.write(0, 0, 9));
        due("the checkpoint", 1, x::lastCheckpoint);
        TransactionalFlash y = shadows(SEVEN, 1, 3);
        due("a write outside, the seventh, with 8", STATE, () -> y.write(0, 0, 9));
        due("no checkpoint", 0, y::lastCheckpoint);
        TransactionalFlash z = shadows(SEVEN, 0, 3);
        due("a write outside, the sixth, with 8", 9, () -> z.write(0, 0, 9));
        due("no checkpoint", 0, z::lastCheckpoint);

        TransactionalFlash u = shadows(SEVEN, 1, 2);
        due("a commit, the seventh, with 7", 2, () -> u.commit(1));
        due("the checkpoint", 1, u::lastCheckpoint);
        TransactionalFlash v = shadows(SEVEN, 1, 3);
        due("a commit, the seventh, with 8", STATE, () -> v.commit(1));
        due("no checkpoint", 0, v::lastCheckpoint);
        TransactionalFlash w = shadows(SEVEN, 0, 3);
        due("a commit, the sixth, with 8", 3, () -> w.commit(1));
        TransactionalFlash t = shadows(SEVEN, 1, 4);
        due("valid pages", 9, t::validPages);
        due("a write in a transaction, no commit, with 9, behind four copies", 15, () -> t.write(1, 4, 10));
        due("no checkpoint", 0, t::lastCheckpoint);
    }

    private static void roomWithTwoParts() {
        says(PAGES);
        TransactionalFlash x = shadows(ELEVEN, 1, 3);
        due("a write outside with 12 of 16", 14, () -> x.write(0, 0, 9));
        due("the checkpoint", 1, x::lastCheckpoint);
        TransactionalFlash y = shadows(ELEVEN, 1, 4);
        due("a write outside with 13", STATE, () -> y.write(0, 0, 9));
        TransactionalFlash z = shadows(ELEVEN, 1, 3);
        due("a commit with 12", 3, () -> z.commit(1));
        TransactionalFlash u = shadows(ELEVEN, 1, 4);
        due("a commit with 13", STATE, () -> u.commit(1));
        TransactionalFlash v = shadows(ELEVEN, 0, 4);
        due("a checkpoint with 13", 1, v::checkpoint);
        TransactionalFlash w = shadows(ELEVEN, 0, 5);
        due("a checkpoint with 14", STATE, w::checkpoint);
    }

    private static void roomOfACheckpoint() {
        says(PAGES);
        TransactionalFlash x = shadows(FULL, 0, 3);
        due("a checkpoint with 8", 1, x::checkpoint);
        TransactionalFlash y = shadows(FULL, 0, 4);
        due("a checkpoint with 9", STATE, y::checkpoint);
        due("its number is not used", 1, () -> {
            y.abort(1);
            return y.checkpoint();
        });
        says(ROOM);
        TransactionalFlash z = of(FULL);
        z.checkpoint();
        z.begin();
        z.write(1, 0, 9);
        due("the pages of the latest checkpoint are valid at the beginning: with 8", 2, z::checkpoint);
        z.write(1, 1, 9);
        due("with 9, though two would not be valid at the end", STATE, z::checkpoint);
        due("the latest one stays", 2, z::lastCheckpoint);
    }

    private static void nothingChanges() {
        says(ROOM);
        TransactionalFlash x = shadows(SEVEN, 1, 3);
        x.arm(1);
        List<String> before = snapshot(x);
        due("a write outside", STATE, () -> x.write(0, 0, 9));
        due("a commit", STATE, () -> x.commit(1));
        dueSame("nothing", before, snapshot(x));
        due("no flash operation", 1, () -> x.arm(0));

        TransactionalFlash y = shadows(FULL, 0, 4);
        y.write(1, 0, 9);
        y.arm(1);
        List<String> full = snapshot(y);
        due("a checkpoint", STATE, y::checkpoint);
        due("a write in a transaction", STATE, () -> y.write(1, 0, 9));
        dueSame("nothing", full, snapshot(y));
        due("no flash operation", 1, () -> y.arm(0));
        due("the values in the shadow", 9, () -> y.read(1, 4));
    }

    private static void copiesAreNotCounted() {
        says(ROOM);
        TransactionalFlash x = shadows(FULL, 0, 4);
        x.write(1, 4, 9);
        due("with 9 valid pages", 9, x::validPages);
        due("four copies and the write", 15, () -> x.write(1, 4, 9));
        due("copies", 4, x::copies);
    }
}
