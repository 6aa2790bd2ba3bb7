/** The boundaries in section 1, FLASH. */
public final class FlashEdgesTest extends Edges {
    public static void main(String[] args) {
        numberedFromZero();
        pagesInAscendingOrder();
        freeAndFull();
        notTheActiveBlock();
        sequenceNumbers();
        versionOfACopy();
        indexAndGroup();
        indexOfACommit();
        partsOfTheMap();
        numbersOfTheParts();
        mapOfTheLastPart();
        committedVersionAtFirst();
        values();
        end("FlashEdgesTest");
    }

    private static void numberedFromZero() {
        says("The flash has B blocks, numbered from 0, with P pages each, numbered from 0.");
        TransactionalFlash x = of("blocks 6 pages 3 logical 2 every 50;");
        due("the first block", 0, () -> x.block(0, 1));
        due("the last block", 0, () -> x.block(5, 1));
        due("none behind it", NO_SUCH, () -> x.block(6, 1));
        due("none ahead of it", NO_SUCH, () -> x.block(-1, 1));
        due("the first page", 0, () -> x.flashPage(0, 0));
        due("the last page", 0, () -> x.flashPage(17, 0));
        due("none behind it", NO_SUCH, () -> x.flashPage(18, 0));
        due("none ahead of it", NO_SUCH, () -> x.flashPage(-1, 0));
        writeTimes(x, 1, 4);
        due("the first block is full of pages", 3, () -> x.block(0, 1));
        due("the first page of the next block", 3, () -> x.place(1));
    }

    private static void pagesInAscendingOrder() {
        says("The pages of a block can only be programmed in ascending order, and all pages of a block are freed"
                + " together by erasing the block; its erase count increases by 1 then.");
        TransactionalFlash x = of(TINY);
        for (int i = 0; i < 6; i++) {
            int place = i;
            x.write(0, 0, i);
            due("place of write " + i, place, () -> x.place(0));
        }
        due("not free in block 0", 2, () -> x.block(0, 1));
        due("a write that has block 0 erased", 7, () -> x.write(0, 0, 6));
        due("not free in block 0", 0, () -> x.block(0, 1));
        duePage("the first page", x, 0, 0, -1, -1, -1, -1, -2);
        duePage("the last page", x, 1, 0, -1, -1, -1, -1, -2);
        due("its erase count", 1, () -> x.block(0, 0));
        due("the erase count of the next one", 0, () -> x.block(1, 0));
        writeTimes(x, 0, 3);
        due("block 0 is programmed from its first page", 0, () -> {
            x.write(0, 0, 7);
            return x.place(0);
        });
    }

    private static void freeAndFull() {
        says("A block is free if all its pages are free and it is not the active block (section 3), and full if none"
                + " of its pages is free.");
        TransactionalFlash x = of(TINY);
        due("no page programmed", 5, x::freeBlocks);
        x.write(0, 0, 1);
        due("one page programmed", 4, x::freeBlocks);
        x.write(0, 0, 2);
        due("full", 4, x::freeBlocks);
        due("the full block is active as long as no page more is programmed", 0, x::activeBlock);
        x.write(0, 0, 3);
        due("the next block", 1, x::activeBlock);
        x.powerOff();
        due("off, a page that is not free", 3, x::freeBlocks);

        TransactionalFlash y = of(TINY);
        y.write(0, 0, 1);
        y.arm(1);
        due("the last page is torn", STATE, () -> y.write(0, 0, 2));
        y.recover();
        due("a block with a torn last page is full", -1, y::activeBlock);
        due("so the next block is programmed", 1, () -> {
            y.write(0, 0, 3);
            return y.activeBlock();
        });
    }

    private static void notTheActiveBlock() {
        says("A block is free if all its pages are free and it is not the active block (section 3), and full if none"
                + " of its pages is free.");
        TransactionalFlash x = of(TINY);
        writeTimes(x, 0, 6);
        due("two blocks are free", 2, x::freeBlocks);
        x.arm(1);
        due("the new active block is not free, so a block is collected", STATE, () -> x.write(0, 0, 1));
        due("all its pages are torn", 2, () -> x.block(0, 3));
        due("the new active block is free again when it is active no more", 2, x::freeBlocks);
        due("no page of it was programmed", 0, () -> x.block(3, 1));
    }

    private static void sequenceNumbers() {
        says("Sequence numbers are counted from 1: each page that is programmed gets the next one (a page that is torn"
                + " gets none).");
        TransactionalFlash x = of(BARE);
        due("the first", 1, () -> x.write(0, 0, 1));
        due("its sequence number", 1, () -> x.flashPage(0, 4));
        due("the second", 2, () -> x.write(0, 1, 1));
        x.arm(1);
        due("a torn page", STATE, () -> x.write(0, 2, 1));
        due("its sequence number", -1, () -> x.flashPage(2, 4));
        x.recover();
        due("no number is left out for it", 3, () -> x.write(0, 2, 1));
        x.checkpoint();
        due("pages of a checkpoint get them too", 6, () -> x.write(0, 3, 1));
    }

    private static void versionOfACopy() {
        says("The version is the sequence number of the page, unless the page is a copy.");
        TransactionalFlash x = of("blocks 4 pages 5 logical 4 every 50; fill 10 20;");
        writeTimes(x, 3, 8);
        due("a write with a copy ahead of it", 12, () -> x.write(0, 3, 9));
        duePage("the copy", x, 10, 1, 3, 0, 10, 11, 107);
        duePage("no copy", x, 11, 1, 3, 0, 12, 12, 9);
        due("the committed version is that of the write", 12, () -> x.version(3));
    }

    private static void indexAndGroup() {
        says("data: it holds a value of a logical page; the index is the logical page, the group is the transaction,"
                + " or 0;");
        TransactionalFlash x = of(BARE);
        x.begin();
        x.begin();
        x.write(2, 4, -1);
        x.write(0, 0, 999999);
        duePage("of transaction 2", x, 0, 1, 4, 2, 1, 1, -1);
        duePage("of none", x, 1, 1, 0, 0, 2, 2, 999999);
        says("end: the group is the number of the checkpoint; the index is 0.");
        x.checkpoint();
        x.checkpoint();
        duePage("the first", x, 3, 4, 0, 1, 4, 4, -2);
        duePage("the second", x, 5, 4, 0, 2, 6, 6, -2);
    }

    private static void indexOfACommit() {
        says("commit: the group is the transaction; the index is the number of logical pages that the transaction has"
                + " written;");
        TransactionalFlash x = of(WIDE);
        for (int t = 1; t <= 3; t++) {
            x.begin();
        }
        x.write(1, 0, 1);
        x.write(1, 0, 2);
        x.write(1, 0, 3);
        due("one page, three times", 1, () -> x.commit(1));
        duePage("the commit page", x, 3, 2, 1, 1, 4, 4, -2);
        for (int page = 0; page < 64; page++) {
            x.write(3, page, page);
        }
        due("all pages", 64, () -> x.commit(3));
        duePage("the commit page", x, 68, 2, 64, 3, 69, 69, -2);
        due("no page", 0, () -> x.commit(2));
        due("no commit page", 69, x::programs);
    }

    private static void partsOfTheMap() {
        says("There are L logical pages, numbered from 0, and the map has M parts, L / 8 rounded up.");
        int[][] sizes = {{1, 1}, {7, 1}, {8, 1}, {9, 2}, {15, 2}, {16, 2}, {17, 3}, {56, 7}, {57, 8}, {63, 8}, {64, 8}};
        for (int[] size : sizes) {
            TransactionalFlash x = of("blocks 32 pages 32 logical " + size[0] + " every 50;");
            x.checkpoint();
            due("parts and end for L = " + size[0], size[1] + 1, x::programs);
            due("the last part", size[1] - 1, () -> x.flashPage(size[1] - 1, 1));
            due("the last logical page", 0, () -> x.version(size[0] - 1));
            due("none behind it", NO_SUCH, () -> x.version(size[0]));
            due("none ahead of 0", NO_SUCH, () -> x.version(-1));
        }
    }

    private static void numbersOfTheParts() {
        says("the index is the part: part k is for the logical pages 8 * k to 8 * k + 7; the group is the number of"
                + " the checkpoint;");
        TransactionalFlash x = of(WIDE);
        x.checkpoint();
        x.checkpoint();
        for (int k = 0; k < 8; k++) {
            duePage("part " + k + " of the first", x, k, 3, k, 1, k + 1, k + 1, -2);
            duePage("part " + k + " of the second", x, 9 + k, 3, k, 2, k + 10, k + 10, -2);
        }
    }

    private static void mapOfTheLastPart() {
        says("map: it holds the versions of 8 logical pages (fewer in the last one);");
        int[] sizes = {1, 7, 8, 9, 16, 17, 64};
        for (int size : sizes) {
            TransactionalFlash x = of("blocks 32 pages 32 logical " + size + " every 50;");
            x.begin();
            for (int page = 0; page < size; page++) {
                x.write(1, page, 500 + page);
            }
            x.commit(1);
            x.checkpoint();
            x.powerOff();
            due("versions in the map of " + size, size, x::recover);
            due("nothing is applied behind the map", 0, x::commits);
            for (int i = 0; i < size; i++) {
                int page = i;
                due("version of " + page + " of " + size, page + 1, () -> x.version(page));
                due("value of " + page + " of " + size, 500 + page, () -> x.read(0, page));
            }
        }
    }

    private static void committedVersionAtFirst() {
        says("A logical page has a committed version, which is 0 at first, and a value; the value is that of the data"
                + " page with this version, and -1 if the version is 0.");
        TransactionalFlash x = of(BARE);
        for (int i = 0; i < 5; i++) {
            int page = i;
            due("version at first", 0, () -> x.version(page));
            due("value at first", -1, () -> x.read(0, page));
        }
        x.write(0, 4, 0);
        due("version", 1, () -> x.version(4));
        due("value", 0, () -> x.read(0, 4));
        due("the page beside it", 0, () -> x.version(3));
        x.write(0, 3, 7);
        x.write(0, 4, 8);
        due("the value of the latest version", 8, () -> x.read(0, 4));
        due("the value of another page", 7, () -> x.read(0, 3));
    }

    private static void values() {
        says("A value is from -1 to 999999; -1 means that the logical page has none (writing -1 removes a value).");
        TransactionalFlash x = of(BARE);
        x.begin();
        says("Throws `IllegalArgumentException` if value is out of range");
        for (int wrong : new int[] {-2, 1000000, MIN, MAX}) {
            due("outside: " + wrong, ARGUMENT, () -> x.write(0, 0, wrong));
            due("in a transaction: " + wrong, ARGUMENT, () -> x.write(1, 0, wrong));
        }
        due("nothing was programmed", 0, x::programs);
        due("nothing was locked", 0, () -> x.lockedBy(0));
        says("`value`: -1 to 999999");
        int version = 0;
        for (int right : new int[] {0, 999999, -1}) {
            version++;
            int due = version;
            due("outside: " + right, due, () -> x.write(0, 0, right));
            due("read", right, () -> x.read(0, 0));
        }
        for (int right : new int[] {-1, 0, 999999}) {
            version++;
            int due = version;
            due("in a transaction: " + right, due, () -> x.write(1, 1, right));
            due("read", right, () -> x.read(1, 1));
        }
        due("a removed value has a version", 3, () -> x.version(0));
        due("and a place", 2, () -> x.place(0));
        dueValid("and a valid page", 1, x, 2);
        x.powerOff();
        due("a removed value counts in recovery", 1, x::recover);
        due("it is removed after it, too", -1, () -> x.read(0, 0));
    }
}
