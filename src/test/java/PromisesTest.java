/** Each promise of the document by hand: ordinary inputs, the edges that are named, and wrong inputs. */
public final class PromisesTest {
    private static final Checks CHECKS = new Checks();
    private static final long NO_SUCH = Checks.NO_SUCH;
    private static final long ARGUMENT = Checks.ARGUMENT;
    private static final long STATE = Checks.STATE;

    // One map part, room for 10 valid pages.
    private static final String FOUR = "blocks 4 pages 5 logical 4 every 3; fill 10 20;";
    private static final String FULL = "blocks 4 pages 5 logical 5 every 50; fill 1 2 3 4 5;";
    private static final String EACH = "blocks 4 pages 5 logical 5 every 1; fill 1 2 3 4 5;";
    // The smallest flash: garbage is collected at the seventh page.
    private static final String TINY = "blocks 5 pages 2 logical 1 every 50;";
    private static final String WIDE = "blocks 32 pages 32 logical 64 every 50;";

    private static String promise = "";

    public static void main(String[] args) {
        newObject();
        feed();
        format();
        formatBeginsAnew();
        errors();
        begin();
        write();
        writeOrderOfExceptions();
        writeRoom();
        writeGarbage();
        read();
        commit();
        commitRoom();
        abort();
        readers();
        checkpoint();
        isOnAndArm();
        armedLosses();
        powerOff();
        recover();
        recoverLosesPower();
        recoverTransactions();
        recoverFromCheckpoint();
        recoverFirstPlace();
        recoverInOrder();
        noBlockToCollect();
        noBlockFree();
        sizes();
        versionAndPlace();
        locks();
        blocks();
        flashPages();
        validity();
        copies();
        counts();
        victim();
        CHECKS.end("PromisesTest");
    }

    private static void due(String what, long want, Checks.Call call) {
        CHECKS.due("promise " + promise + ", " + what, want, call);
    }

    private static TransactionalFlash of(String text) {
        return Checks.formatted(text);
    }

    private static void newObject() {
        promise = "1";
        TransactionalFlash x = new TransactionalFlash();
        due("isOn", 0, () -> Checks.bit(x.isOn()));
        due("logicalPages", 0, x::logicalPages);
        due("blocks", 0, x::blocks);
        due("pagesPerBlock", 0, x::pagesPerBlock);
        due("transactions", 0, x::transactions);
        due("readers", 0, x::readers);
        due("activeBlock", -1, x::activeBlock);
        due("freeBlocks", 0, x::freeBlocks);
        due("validPages", 0, x::validPages);
        due("programs", 0, x::programs);
        due("erases", 0, x::erases);
        due("copies", 0, x::copies);
        due("writes", 0, x::writes);
        due("wearGap", 0, x::wearGap);
        due("lastCheckpoint", 0, x::lastCheckpoint);
        due("commits", 0, x::commits);
        due("losses", 0, x::losses);
        due("victim", -1, x::victim);
        due("errorCode", 0, x::errorCode);
        due("errorPosition", -1, x::errorPosition);
        due("begin", STATE, x::begin);
        due("write", NO_SUCH, () -> x.write(0, 0, 0));
        due("read", NO_SUCH, () -> x.read(0, 0));
        due("commit", NO_SUCH, () -> x.commit(1));
        due("abort", NO_SUCH, () -> x.abort(1));
        due("openReader", STATE, x::openReader);
        due("readBy", NO_SUCH, () -> x.readBy(0, 0));
        due("closeReader", NO_SUCH, () -> x.closeReader(0));
        due("checkpoint", STATE, x::checkpoint);
        due("powerOff", STATE, x::powerOff);
        due("recover", STATE, x::recover);
        due("version", NO_SUCH, () -> x.version(0));
        due("place", NO_SUCH, () -> x.place(0));
        due("lockedBy", NO_SUCH, () -> x.lockedBy(0));
        due("state", NO_SUCH, () -> x.state(0));
        due("locks", NO_SUCH, () -> x.locks(1));
        due("block", NO_SUCH, () -> x.block(0, 9));
        due("flashPage", NO_SUCH, () -> x.flashPage(0, 9));
        due("isValid", NO_SUCH, () -> Checks.bit(x.isValid(0)));
    }

    private static void feed() {
        promise = "2";
        TransactionalFlash x = new TransactionalFlash();
        for (int i = 1; i <= 30; i++) {
            due("feed " + i, 20L * i, () -> x.feed(0, -1, Integer.MIN_VALUE, Integer.MAX_VALUE, 7));
        }
        due("feed over 600", STATE, () -> x.feed(0, 0, 0, 0, 0));
        due("all 600 bytes stand", STATE, () -> x.format(600));
        due("the buffer is empty again", 20, () -> x.feed(0x626C6F63, 0x6B732034, 0x20706167, 0x65732035, 0x206C6F67));
        due("the most significant byte is first", 40,
                () -> x.feed(0x6963616C, 0x20342065, 0x76657279, 0x20333B20, 0x20202020));
        due("format", 0, () -> x.format(40));
    }

    private static void format() {
        promise = "3";
        TransactionalFlash x = new TransactionalFlash();
        due("length -1", ARGUMENT, () -> x.format(-1));
        due("length 1 of 0", ARGUMENT, () -> x.format(1));
        due("length 0", STATE, () -> x.format(0));
        due("errorCode", 1, x::errorCode);
        int length = Checks.feed(x, FOUR);
        due("length 61 of 60", ARGUMENT, () -> x.format(61));
        due("errorCode stays", 1, x::errorCode);
        due("errorPosition stays", 0, x::errorPosition);
        due("the first bytes alone count", 2, () -> x.format(length));
        due("errorCode", 0, x::errorCode);
        due("errorPosition", -1, x::errorPosition);
        due("read 0", 10, () -> x.read(0, 0));
        due("read 1", 20, () -> x.read(0, 1));
        due("read 2", -1, () -> x.read(0, 2));
        due("the buffer is emptied whole", 20, () -> x.feed(0, 0, 0, 0, 0));
        due("an error", STATE, () -> x.format(20));
        due("the buffer is emptied by an error", 20, () -> x.feed(0, 0, 0, 0, 0));
        due("the device stays as it was", 10, () -> x.read(0, 0));
        due("the greatest format", 64, () -> {
            TransactionalFlash y = new TransactionalFlash();
            StringBuilder text = new StringBuilder("blocks 32 pages 32 logical 64 every 1;fill");
            for (int i = 0; i < 64; i++) {
                text.append(" 999999");
            }
            return y.format(Checks.feed(y, text.append(";").toString()));
        });
    }

    private static void formatBeginsAnew() {
        promise = "3";
        TransactionalFlash x = of(TINY);
        x.begin();
        for (int i = 0; i < 9; i++) {
            x.write(0, 0, i);
        }
        x.openReader();
        x.checkpoint();
        x.arm(1);
        due("a loss", STATE, () -> x.write(0, 0, 1));
        x.arm(1);
        due("format", 2, () -> x.format(Checks.feed(x, FOUR)));
        due("isOn", 1, () -> Checks.bit(x.isOn()));
        due("nothing is armed", 0, () -> x.arm(0));
        due("transactions", 0, x::transactions);
        due("state", NO_SUCH, () -> x.state(1));
        due("readers", 0, x::readers);
        due("losses", 0, x::losses);
        due("erases", 0, x::erases);
        due("copies", 0, x::copies);
        due("wearGap", 0, x::wearGap);
        due("lastCheckpoint", 0, x::lastCheckpoint);
        due("the sequence begins anew", 1, () -> x.version(0));
        due("the blocks are free", 3, x::freeBlocks);
        due("block 1 is free", 0, () -> x.block(1, 1));
        due("transactions are counted anew", 1, x::begin);
        due("checkpoints are counted anew", 1, x::checkpoint);

        TransactionalFlash y = of(FULL);
        y.checkpoint();
        y.format(Checks.feed(y, FULL));
        y.begin();
        y.write(1, 0, 5);
        y.commit(1);
        due("a commit page behind no checkpoint", 1, () -> Checks.bit(y.isValid(6)));
        due("commits", 6, y::commits);
    }

    private static void error(String text, int code, int position) {
        TransactionalFlash x = new TransactionalFlash();
        int length = Checks.feed(x, text);
        long outcome = Checks.outcome(() -> x.format(length));
        CHECKS.same("promise 3, format of " + text, code == 0 ? 0 : STATE, code == 0 && outcome < 65 ? 0 : outcome);
        CHECKS.same("promise 4, errorCode of " + text, code, x.errorCode());
        CHECKS.same("promise 5, errorPosition of " + text, position, x.errorPosition());
    }

    private static void errors() {
        String head = "blocks 4 pages 5 logical 4 every 3;";
        error("", 1, 0);
        error(" \n ", 1, 3);
        error(head, 0, -1);
        error(" \nblocks 4 pages\n5 logical 4 every 3 \n ; \n", 0, -1);
        error("blocks 000004 pages 5 logical 4 every 3;fill 1;fill 2 3;", 0, -1);
        error("blocks 4 pages 5 logical 4 every 3", 1, 34);
        error("blocks 4 pages 5 logical 4 every 3  ", 1, 36);
        error("blocks 4 pages 5", 1, 16);
        error("Blocks 4", 1, 0);
        error("block 4", 1, 0);
        error("blockss 4", 1, 0);
        error("blocksX 4", 1, 6);
        error("blockX 4", 1, 0);
        error("4 blocks", 1, 0);
        error("; blocks", 1, 0);
        error("blocks4 pages", 1, 6);
        error("blocks 4pages 5", 1, 8);
        error("blocks 33pages 5", 2, 7);
        error("blocks 4 4", 1, 9);
        error("blocks pages", 1, 7);
        error("blocks\t4", 1, 6);
        error("blocks\r\n4", 1, 6);
        error("blocks " + (char) 233, 1, 7);
        error("blocks " + (char) 0, 1, 7);
        error("blocks -4", 1, 7);
        error("blocks 0000004 pages", 1, 7);
        error("blocks 1000000 pages", 1, 7);
        error("blocks 999999 pages", 2, 7);
        error("blocks 3 pages 5", 2, 7);
        error("blocks 33 pages 5", 2, 7);
        error("blocks 4 pages 1 ", 2, 15);
        error("blocks 4 pages 33", 2, 15);
        error("blocks 4 pages 5 logical 0", 2, 25);
        error("blocks 32 pages 32 logical 65", 2, 27);
        error("blocks 32 pages 32 logical 64 every 1;", 0, -1);
        error("blocks 4 pages 5 logical 5 every 50;", 0, -1);
        error("blocks 4 pages 5 logical 6 every 3;", 2, 25);
        error("blocks 5 pages 5 logical 8 every 3;", 0, -1);
        error("blocks 5 pages 5 logical 9 every 3;", 2, 25);
        error("blocks 5 pages 2 logical 1 every 0;", 2, 33);
        error("blocks 5 pages 2 logical 1 every 51;", 2, 33);
        error("blocks 4 pages 2 logical 1 every 1;", 2, 25);
        error(head + ";", 1, 35);
        error(head + " 1", 1, 36);
        error(head + "fill", 1, 39);
        error(head + "fill;", 1, 39);
        error(head + "fill 1", 1, 41);
        error(head + "fill 1 fill", 1, 42);
        error(head + "fill 1;2;", 1, 42);
        error(head + "fill 1;fil 2;", 1, 42);
        error(head + "fill1;", 1, 39);
        error(head + "fill 1 2 3 4;", 0, -1);
        error(head + "fill 1 2 3 4 5;", 3, 48);
        error(head + "fill 1 2; fill 3 4; fill 999999 ;", 3, 60);
        error(head + "fill 1 2 3 4 5000000;", 1, 48);
        error(head + "fill 1000000;", 1, 40);
        error(head + "fill 1 2 3 4 x;", 1, 48);
    }

    private static void begin() {
        promise = "6";
        TransactionalFlash x = of(FOUR);
        for (int i = 1; i <= 6; i++) {
            due("begin " + i, i, x::begin);
        }
        due("a seventh open one", STATE, x::begin);
        due("programs stay", 2, x::programs);
        x.abort(3);
        due("after an abort", 7, x::begin);
        x.commit(7);
        due("after a commit", 8, x::begin);
        x.powerOff();
        due("off", STATE, x::begin);
        x.recover();
        due("the numbers go on", 9, x::begin);
    }

    private static void write() {
        promise = "7";
        TransactionalFlash x = of(FOUR);
        x.begin();
        due("in a transaction", 3, () -> x.write(1, 0, 0));
        due("in place of an earlier one", 4, () -> x.write(1, 0, 999999));
        due("the number of commits stays", 2, x::commits);
        due("unseen outside", 10, () -> x.read(0, 0));
        due("seen inside", 999999, () -> x.read(1, 0));
        due("locked for one outside", STATE, () -> x.write(0, 0, 1));
        x.begin();
        due("locked for another transaction", STATE, () -> x.write(2, 0, 1));
        due("another page", 5, () -> x.write(2, 1, -1));
        due("a value is removed in the shadow", -1, () -> x.read(2, 1));
        due("outside, with a checkpoint behind it", 6, () -> x.write(0, 3, 7));
        due("the checkpoint", 1, x::lastCheckpoint);
        due("the pages of the checkpoint", 8, x::programs);
        due("commits", 0, x::commits);
        due("writes", 6, x::writes);
        due("outside", 9, () -> x.write(0, 3, -1));
        due("a value is removed", -1, () -> x.read(0, 3));
        due("a removed value has a version", 9, () -> x.version(3));
        due("commits", 1, x::commits);
        x.abort(1);
        due("free again", 10, () -> x.write(0, 0, 1));
    }

    private static void writeOrderOfExceptions() {
        promise = "7";
        TransactionalFlash x = of(FOUR);
        x.begin();
        x.commit(1);
        due("transaction -1", NO_SUCH, () -> x.write(-1, 0, 5));
        due("transaction 2 of 1", NO_SUCH, () -> x.write(2, 0, -9));
        due("page -1", NO_SUCH, () -> x.write(0, -1, 5));
        due("page 4 of 4", NO_SUCH, () -> x.write(1, 4, 1000000));
        due("value -2", ARGUMENT, () -> x.write(0, 0, -2));
        due("value 1000000", ARGUMENT, () -> x.write(0, 0, 1000000));
        due("value ahead of a state", ARGUMENT, () -> x.write(1, 0, 1000000));
        due("committed transaction", STATE, () -> x.write(1, 0, 5));
        x.begin();
        x.abort(2);
        due("aborted transaction", STATE, () -> x.write(2, 0, 5));
        x.powerOff();
        due("off", STATE, () -> x.write(0, 0, 5));
        due("page, off", NO_SUCH, () -> x.write(0, 4, 5));
        due("value, off", ARGUMENT, () -> x.write(0, 0, -2));
        due("nothing was written", 2, x::programs);
    }

    private static void writeRoom() {
        promise = "7";
        TransactionalFlash x = of(FULL);
        x.begin();
        for (int i = 0; i < 5; i++) {
            x.write(1, i, 100 + i);
        }
        due("valid pages", 10, x::validPages);
        due("no room in a transaction", STATE, () -> x.write(1, 0, 1));
        due("nothing changes", 104, () -> x.read(1, 4));
        due("nothing is programmed", 10, x::programs);
        due("the device is on", 1, () -> Checks.bit(x.isOn()));
        due("no loss", 0, x::losses);
        x.abort(1);
        due("room again", 11, () -> x.write(0, 0, 1));

        TransactionalFlash y = of(EACH);
        due("valid pages", 7, y::validPages);
        due("room for a checkpoint too", 1, () -> {
            y.write(0, 0, 1);
            return y.read(0, 0);
        });
        y.begin();
        y.write(1, 1, 1);
        due("no room for a checkpoint", STATE, () -> y.write(0, 0, 2));
        due("nothing changes", 1, () -> y.read(0, 0));
        due("room for a page in a transaction", 2, () -> {
            y.write(1, 2, 2);
            return y.read(1, 2);
        });
    }

    private static void writeGarbage() {
        promise = "7";
        TransactionalFlash x = of(TINY);
        for (int i = 1; i <= 6; i++) {
            int version = i;
            due("write " + i, version, () -> x.write(0, 0, version));
        }
        due("activeBlock", 2, x::activeBlock);
        due("freeBlocks", 2, x::freeBlocks);
        due("write 7", 7, () -> x.write(0, 0, 7));
        due("the next block is active", 3, x::activeBlock);
        due("the lowest block without valid pages is erased", 1, () -> x.block(0, 0));
        due("freeBlocks", 2, x::freeBlocks);
        x.write(0, 0, 8);
        due("write 9", 9, () -> x.write(0, 0, 9));
        due("the free block with the least erase count is active", 4, x::activeBlock);
        due("then block 1 is erased", 1, () -> x.block(1, 0));
        due("block 2 stays", 0, () -> x.block(2, 0));
        x.write(0, 0, 10);
        x.write(0, 0, 11);
        due("of several with the least count, the lowest", 0, x::activeBlock);
        due("read", 11, () -> x.read(0, 0));
    }

    private static void read() {
        promise = "8";
        TransactionalFlash x = of(FOUR);
        due("a value", 20, () -> x.read(0, 1));
        due("none", -1, () -> x.read(0, 3));
        due("page 4 of 4", NO_SUCH, () -> x.read(0, 4));
        due("page -1", NO_SUCH, () -> x.read(0, -1));
        due("transaction 1 of 0", NO_SUCH, () -> x.read(1, 0));
        due("transaction -1", NO_SUCH, () -> x.read(-1, 0));
        x.begin();
        x.begin();
        x.write(1, 3, 33);
        due("its own shadow", 33, () -> x.read(1, 3));
        due("not another one's", -1, () -> x.read(2, 3));
        due("what is committed", 10, () -> x.read(1, 0));
        x.commit(1);
        due("committed for others", 33, () -> x.read(2, 3));
        due("a transaction that is not open", STATE, () -> x.read(1, 3));
        x.powerOff();
        due("off", STATE, () -> x.read(0, 0));
        due("page 4, off", NO_SUCH, () -> x.read(0, 4));
        due("transaction 3, off", NO_SUCH, () -> x.read(3, 0));
    }

    private static void commit() {
        promise = "9";
        TransactionalFlash x = of(FOUR);
        x.begin();
        x.begin();
        due("one that has written nothing", 0, () -> x.commit(1));
        due("its state", 2, () -> x.state(1));
        due("no flash operation", 2, x::programs);
        due("the number of commits stays", 2, x::commits);
        x.write(2, 0, 1);
        x.write(2, 0, 2);
        x.write(2, 3, 3);
        due("two pages", 2, () -> x.commit(2));
        due("the commit page", 2, () -> x.flashPage(5, 0));
        due("its index", 2, () -> x.flashPage(5, 1));
        due("its group", 2, () -> x.flashPage(5, 2));
        due("the checkpoint", 1, x::lastCheckpoint);
        due("version", 4, () -> x.version(0));
        due("version", 5, () -> x.version(3));
        due("state", 2, () -> x.state(2));
        due("not locked", 0, () -> x.lockedBy(0));
        due("again", STATE, () -> x.commit(2));
        due("transaction 0", NO_SUCH, () -> x.commit(0));
        due("transaction 3 of 2", NO_SUCH, () -> x.commit(3));
        due("transaction -1", NO_SUCH, () -> x.commit(-1));
        x.begin();
        x.powerOff();
        due("off", STATE, () -> x.commit(3));
        due("transaction 4, off", NO_SUCH, () -> x.commit(4));
        x.recover();
        due("lost", STATE, () -> x.commit(3));
    }

    private static void commitRoom() {
        promise = "9";
        TransactionalFlash x = of(FULL);
        x.begin();
        x.begin();
        for (int i = 0; i < 5; i++) {
            x.write(1, i, 100 + i);
        }
        due("no room", STATE, () -> x.commit(1));
        due("it stays open", 1, () -> x.state(1));
        due("it keeps its locks", 5, () -> x.locks(1));
        due("one that has written nothing needs no room", 0, () -> x.commit(2));

        TransactionalFlash y = of(EACH);
        y.begin();
        y.write(1, 0, 9);
        due("no room for a checkpoint", STATE, () -> y.commit(1));
        due("it stays open", 1, () -> y.state(1));
    }

    private static void abort() {
        promise = "10";
        TransactionalFlash x = of(FOUR);
        x.begin();
        x.write(1, 0, 1);
        x.write(1, 0, 2);
        x.write(1, 2, 3);
        due("two pages", 2, () -> x.abort(1));
        due("no flash operation", 5, x::programs);
        due("state", 3, () -> x.state(1));
        due("not locked", 0, () -> x.lockedBy(0));
        due("the value stays", 10, () -> x.read(0, 0));
        due("its pages are not valid", 2, x::validPages);
        due("again", STATE, () -> x.abort(1));
        due("transaction 0", NO_SUCH, () -> x.abort(0));
        due("transaction 2 of 1", NO_SUCH, () -> x.abort(2));
        x.begin();
        due("one that has written nothing", 0, () -> x.abort(2));
        x.begin();
        x.powerOff();
        due("off", STATE, () -> x.abort(3));
        due("transaction 4, off", NO_SUCH, () -> x.abort(4));
    }

    private static void readers() {
        promise = "11";
        TransactionalFlash x = of(FOUR);
        for (int i = 0; i < 4; i++) {
            due("openReader " + i, i, x::openReader);
            x.write(0, 2, 100 + i);
        }
        due("a fifth", STATE, x::openReader);
        promise = "12";
        due("reader 0", -1, () -> x.readBy(0, 2));
        due("reader 1", 100, () -> x.readBy(1, 2));
        due("reader 3", 102, () -> x.readBy(3, 2));
        due("now", 103, () -> x.read(0, 2));
        due("a page that did not change", 20, () -> x.readBy(3, 1));
        due("reader 4", NO_SUCH, () -> x.readBy(4, 0));
        due("reader -1", NO_SUCH, () -> x.readBy(-1, 0));
        due("reader 32", NO_SUCH, () -> x.readBy(32, 0));
        due("page 4 of 4", NO_SUCH, () -> x.readBy(0, 4));
        due("page -1", NO_SUCH, () -> x.readBy(0, -1));
        promise = "28";
        due("readers", 15, x::readers);
        promise = "13";
        due("closeReader", 3, () -> x.closeReader(1));
        due("closeReader", 2, () -> x.closeReader(3));
        due("again", NO_SUCH, () -> x.closeReader(3));
        due("closeReader 4", NO_SUCH, () -> x.closeReader(4));
        due("closeReader -1", NO_SUCH, () -> x.closeReader(-1));
        promise = "28";
        due("readers", 5, x::readers);
        promise = "12";
        due("a closed reader", NO_SUCH, () -> x.readBy(1, 0));
        promise = "11";
        due("the lowest number", 1, x::openReader);
        x.begin();
        x.write(1, 0, 77);
        x.powerOff();
        due("off", STATE, x::openReader);
        promise = "28";
        due("closed by the loss", 0, x::readers);
        promise = "12";
        due("off", NO_SUCH, () -> x.readBy(0, 0));
        promise = "13";
        due("off", NO_SUCH, () -> x.closeReader(0));
        x.recover();
        due("closed after recovery too", NO_SUCH, () -> x.closeReader(0));
    }

    private static void checkpoint() {
        promise = "14";
        TransactionalFlash x = of("blocks 6 pages 8 logical 9 every 50; fill 1 2 3 4 5 6 7 8 9;");
        due("the first", 1, x::checkpoint);
        due("part 0", 0, () -> x.flashPage(9, 1));
        due("part 1", 1, () -> x.flashPage(10, 1));
        due("kind", 3, () -> x.flashPage(10, 0));
        due("group", 1, () -> x.flashPage(10, 2));
        due("the end", 4, () -> x.flashPage(11, 0));
        due("its index", 0, () -> x.flashPage(11, 1));
        due("its group", 1, () -> x.flashPage(11, 2));
        due("commits", 0, x::commits);
        due("the second", 2, x::checkpoint);
        due("the first is not valid any more", 0, () -> Checks.bit(x.isValid(9)));
        due("lastCheckpoint", 2, x::lastCheckpoint);
        x.arm(2);
        due("power is lost", STATE, x::checkpoint);
        due("off", STATE, x::checkpoint);
        x.recover();
        due("an incomplete one is not the latest", 2, x::lastCheckpoint);
        due("its pages are not valid", 0, () -> Checks.bit(x.isValid(15)));
        due("its number is used up", 4, x::checkpoint);

        TransactionalFlash y = of(FULL);
        y.begin();
        for (int i = 0; i < 4; i++) {
            y.write(1, i, 1);
        }
        due("9 valid pages and no room for 2 more", STATE, y::checkpoint);
        due("nothing changes", 9, y::programs);
        due("room for 1 more", 4, () -> {
            y.write(0, 4, 4);
            return y.read(0, 4);
        });
        y.abort(1);
        y.begin();
        y.write(2, 0, 1);
        y.write(2, 1, 1);
        y.write(2, 2, 1);
        due("8 valid pages", 8, y::validPages);
        due("room for 2 more", 1, y::checkpoint);
    }

    private static void isOnAndArm() {
        promise = "15";
        TransactionalFlash x = new TransactionalFlash();
        due("without a format", 0, () -> Checks.bit(x.isOn()));
        promise = "16";
        due("without a format", 0, () -> x.arm(5));
        due("nothing is armed then", 0, () -> x.arm(0));
        due("out of range, without a format", ARGUMENT, () -> x.arm(1001));
        x.format(Checks.feed(x, "blocks 4 pages 5 logical 4 every 50;"));
        promise = "15";
        due("with a format", 1, () -> Checks.bit(x.isOn()));
        promise = "16";
        due("-1", ARGUMENT, () -> x.arm(-1));
        due("1001", ARGUMENT, () -> x.arm(1001));
        due("1000", 0, () -> x.arm(1000));
        due("in place of it", 1000, () -> x.arm(4));
        x.write(0, 2, 1);
        due("one operation less", 3, () -> x.arm(7));
        due("a wrong one changes nothing", ARGUMENT, () -> x.arm(-7));
        due("off again", 7, () -> x.arm(0));
        due("none", 0, () -> x.arm(2));
        x.powerOff();
        promise = "15";
        due("after powerOff", 0, () -> Checks.bit(x.isOn()));
        x.recover();
        due("after recovery", 1, () -> Checks.bit(x.isOn()));
        promise = "16";
        due("it stays armed", 2, () -> x.arm(2));
        x.write(0, 2, 1);
        promise = "15";
        due("before the loss", 1, () -> Checks.bit(x.isOn()));
        due("the loss", STATE, () -> x.write(0, 2, 1));
        due("after the loss", 0, () -> Checks.bit(x.isOn()));
        promise = "16";
        due("off", 0, () -> x.arm(1));
        due("off", 1, () -> x.arm(0));
    }

    private static void armedLosses() {
        promise = "16";
        TransactionalFlash x = of(TINY);
        for (int i = 1; i <= 6; i++) {
            x.write(0, 0, i);
        }
        x.arm(1);
        due("a loss at erasing", STATE, () -> x.write(0, 0, 7));
        due("all its pages are torn", 2, () -> x.block(0, 3));
        due("its erase count stays", 0, () -> x.block(0, 0));
        due("erases", 0, x::erases);
        due("no block is active, so the new one is free", 2, x::freeBlocks);
        due("programs", 6, x::programs);
        due("writes", 6, x::writes);
        due("losses", 1, x::losses);
        due("recover", 1, x::recover);
        due("blocks without valid pages are erased", 2, x::erases);
        due("the value", 6, () -> x.read(0, 0));
        due("the block of the newest page is full", -1, x::activeBlock);

        TransactionalFlash y = of("blocks 4 pages 5 logical 4 every 3; fill 1 2;");
        y.arm(3);
        due("a loss in the checkpoint behind a write", STATE, () -> y.write(0, 3, 9));
        due("the write does not count", 2, y::writes);
        y.recover();
        due("but its page stands", 9, () -> y.read(0, 3));
        due("commits", 3, y::commits);
    }

    private static void powerOff() {
        promise = "17";
        TransactionalFlash x = of(FOUR);
        due("none open", 0, x::powerOff);
        due("again", STATE, x::powerOff);
        x.recover();
        x.begin();
        x.begin();
        x.begin();
        x.commit(2);
        x.write(1, 0, 5);
        due("two open", 2, x::powerOff);
        due("they stay open", 1, () -> x.state(1));
        due("nothing is torn", 0, () -> x.block(0, 3));
        due("losses", 2, x::losses);
    }

    private static void recover() {
        promise = "18";
        TransactionalFlash x = of(TINY);
        due("on", STATE, x::recover);
        x.powerOff();
        due("nothing written", 0, x::recover);
        due("no active block", -1, x::activeBlock);
        x.write(0, 0, 1);
        x.write(0, 0, 2);
        x.write(0, 0, 3);
        x.powerOff();
        due("one page", 1, x::recover);
        due("on again", STATE, x::recover);
        due("the greatest version", 3, () -> x.version(0));
        due("commits", 3, x::commits);
        due("block 0 is erased", 1, () -> x.block(0, 0));
        due("the block of the newest page is active", 1, x::activeBlock);
        due("the sequence goes on", 4, () -> x.write(0, 0, 4));
        x.write(0, 0, -1);
        x.powerOff();
        due("a removed value has a version", 1, x::recover);
        due("a removed value", -1, () -> x.read(0, 0));
    }

    private static void recoverLosesPower() {
        promise = "18";
        TransactionalFlash x = of(TINY);
        x.begin();
        x.write(0, 0, 1);
        x.write(0, 0, 2);
        x.write(0, 0, 3);
        x.powerOff();
        x.arm(1);
        due("power is lost", STATE, x::recover);
        due("off", 0, () -> Checks.bit(x.isOn()));
        due("losses", 2, x::losses);
        due("torn", 2, () -> x.block(0, 3));
        due("the transaction is lost", 4, () -> x.state(1));
        due("version", -1, () -> x.version(0));
        due("commits", 0, x::commits);
        due("again", 1, x::recover);
        due("what is left is counted", 1, x::commits);
        due("erased", 1, () -> x.block(0, 0));
        due("no torn page", 0, () -> x.block(0, 3));
    }

    private static void recoverTransactions() {
        promise = "18";
        TransactionalFlash x = of("blocks 6 pages 8 logical 9 every 50; fill 1 2 3;");
        for (int i = 0; i < 4; i++) {
            x.begin();
        }
        x.write(1, 0, 100);
        x.write(2, 1, 201);
        x.write(1, 0, 101);
        x.write(3, 2, 300);
        x.commit(1);
        x.write(0, 0, 7);
        x.abort(2);
        x.write(4, 8, 8);
        x.commit(4);
        x.powerOff();
        due("four pages", 4, x::recover);
        due("written over after the commit", 7, () -> x.read(0, 0));
        due("aborted", 2, () -> x.read(0, 1));
        due("lost", 3, () -> x.read(0, 2));
        due("committed", 8, () -> x.read(0, 8));
        due("states", 2432, () -> x.state(1) * 1000 + x.state(3) * 100 + x.state(2) * 10 + x.state(4));
        due("commits", 6, x::commits);
        x.begin();
        x.write(5, 5, 1);
        x.write(5, 5, 2);
        x.write(5, 6, 3);
        x.commit(5);
        x.powerOff();
        due("six pages", 6, x::recover);
        due("the greatest version of the transaction", 2, () -> x.read(0, 5));
    }

    private static void recoverFromCheckpoint() {
        promise = "18";
        TransactionalFlash x = of("blocks 6 pages 8 logical 9 every 50; fill 1 2 3 4 5 6 7 8 9;");
        x.begin();
        x.write(1, 8, 88);
        x.checkpoint();
        x.write(0, 0, 10);
        x.commit(1);
        x.powerOff();
        due("nine pages", 9, x::recover);
        due("the checkpoint", 1, x::lastCheckpoint);
        due("commits behind it", 2, x::commits);
        due("from the first map page", 2, () -> x.version(1));
        due("from the flash", 14, () -> x.version(0));
        due("from before the checkpoint, by the commit", 10, () -> x.version(8));
        due("read", 88, () -> x.read(0, 8));
        x.checkpoint();
        x.powerOff();
        x.recover();
        due("the latest checkpoint", 2, x::lastCheckpoint);
        due("from the second map page", 10, () -> x.version(8));
        due("commits", 0, x::commits);
    }

    private static void recoverFirstPlace() {
        promise = "18";
        TransactionalFlash x = of(TINY);
        x.begin();
        x.write(1, 0, 5);
        x.commit(1);
        x.powerOff();
        due("a transaction's page at place 0", 1, x::recover);
        due("read", 5, () -> x.read(0, 0));

        TransactionalFlash y = of(TINY);
        for (int i = 1; i <= 10; i++) {
            y.write(0, 0, i);
        }
        due("a map page at place 0", 1, y::checkpoint);
        due("kind", 3, () -> y.flashPage(0, 0));
        y.powerOff();
        due("recover", 1, y::recover);
        due("from the map page", 10, () -> y.version(0));
        due("commits", 0, y::commits);

        TransactionalFlash z = of(TINY);
        for (int i = 1; i <= 9; i++) {
            z.write(0, 0, i);
        }
        z.begin();
        z.write(1, 0, 70);
        due("a commit page at place 0", 1, () -> z.commit(1));
        due("kind", 2, () -> z.flashPage(0, 0));
    }

    private static void recoverInOrder() {
        promise = "18";
        TransactionalFlash x = of(TINY);
        for (int i = 1; i <= 7; i++) {
            x.write(0, 0, i);
        }
        x.checkpoint();
        x.write(0, 0, 70);
        x.write(0, 0, 71);
        due("the newest page is the lowest", 0, () -> x.place(0));
        x.powerOff();
        due("recover", 1, x::recover);
        due("two pages behind the checkpoint", 2, x::commits);
        due("the greatest version is applied last", 71, () -> x.read(0, 0));
    }

    /** Power is lost while a block is collected, so that its pages stand in two blocks and but one block is free. */
    private static TransactionalFlash crowded() {
        TransactionalFlash x = of(FULL);
        x.checkpoint();
        x.write(0, 0, 10);
        x.write(0, 1, 11);
        x.write(0, 1, 12);
        x.arm(2);
        due("a loss at the second copy", STATE, () -> x.write(0, 0, 13));
        due("recover", 5, x::recover);
        due("the copy is in the active block", 2, x::activeBlock);
        x.begin();
        x.write(1, 2, 20);
        x.write(1, 2, 21);
        x.write(1, 3, 22);
        due("valid pages", 9, x::validPages);
        due("one block is free", 1, x::freeBlocks);
        return x;
    }

    private static void noBlockToCollect() {
        promise = "7";
        TransactionalFlash x = crowded();
        promise = "43";
        due("victim", 0, x::victim);
        promise = "7";
        due("one block is collected, none behind it", 17, () -> x.write(1, 4, 23));
        due("still one block is free", 1, x::freeBlocks);
        due("copies", 3, x::copies);
        due("activeBlock", 3, x::activeBlock);
        due("the block that is collected is erased", 1, () -> x.block(0, 0));
    }

    private static void noBlockFree() {
        promise = "7";
        TransactionalFlash x = crowded();
        x.arm(2);
        due("a loss at the second copy", STATE, () -> x.write(1, 4, 23));
        due("recover", 5, x::recover);
        due("no block is free", 0, x::freeBlocks);
        due("activeBlock", 3, x::activeBlock);
        due("victim", -1, x::victim);
        x.arm(5);
        for (int i = 0; i < 3; i++) {
            x.write(0, 0, 30 + i);
        }
        due("programs", 18, x::programs);
        due("power is lost as no block is free", STATE, () -> x.write(0, 0, 40));
        due("off", 0, () -> Checks.bit(x.isOn()));
        due("losses", 3, x::losses);
        due("no page is torn by it", 1, () -> x.block(3, 3));
        due("nothing is programmed", 18, x::programs);
        due("what is armed stays armed", 2, () -> x.arm(0));
        due("recover", 5, x::recover);
        due("the newest block is full", -1, x::activeBlock);
        due("the values are kept", 32, () -> x.read(0, 0));
        due("the values are kept", 3, () -> x.read(0, 2));
        due("lost again", STATE, x::checkpoint);
        due("losses", 4, x::losses);
    }

    private static void sizes() {
        promise = "19 to 21";
        TransactionalFlash x = of(WIDE);
        due("logicalPages", 64, x::logicalPages);
        due("blocks", 32, x::blocks);
        due("pagesPerBlock", 32, x::pagesPerBlock);
        x.powerOff();
        due("logicalPages, off", 64, x::logicalPages);
        due("blocks, off", 32, x::blocks);
        due("pagesPerBlock, off", 32, x::pagesPerBlock);
        TransactionalFlash y = of(TINY);
        due("logicalPages", 1, y::logicalPages);
        due("blocks", 5, y::blocks);
        due("pagesPerBlock", 2, y::pagesPerBlock);
    }

    private static void versionAndPlace() {
        TransactionalFlash x = of(FOUR);
        promise = "22";
        due("version 1", 2, () -> x.version(1));
        due("version 3", 0, () -> x.version(3));
        due("version 4", NO_SUCH, () -> x.version(4));
        due("version -1", NO_SUCH, () -> x.version(-1));
        promise = "23";
        due("place 1", 1, () -> x.place(1));
        due("place 3", -1, () -> x.place(3));
        due("place 4", NO_SUCH, () -> x.place(4));
        due("place -1", NO_SUCH, () -> x.place(-1));
        x.begin();
        x.write(1, 1, 5);
        due("the shadow has no place", 1, () -> x.place(1));
        x.powerOff();
        due("off", -1, () -> x.place(1));
        due("place 4, off", NO_SUCH, () -> x.place(4));
        promise = "22";
        due("off", -1, () -> x.version(3));
        due("version 4, off", NO_SUCH, () -> x.version(4));
    }

    private static void locks() {
        TransactionalFlash x = of(FOUR);
        x.begin();
        x.begin();
        x.write(2, 3, 1);
        x.write(2, 3, 2);
        x.write(2, 0, 1);
        promise = "24";
        due("locked", 2, () -> x.lockedBy(3));
        due("not locked", 0, () -> x.lockedBy(1));
        due("page 4", NO_SUCH, () -> x.lockedBy(4));
        due("page -1", NO_SUCH, () -> x.lockedBy(-1));
        promise = "25";
        due("transactions", 2, x::transactions);
        promise = "26";
        due("open", 1, () -> x.state(2));
        due("state 0", NO_SUCH, () -> x.state(0));
        due("state 3", NO_SUCH, () -> x.state(3));
        due("state -1", NO_SUCH, () -> x.state(-1));
        promise = "27";
        due("two", 2, () -> x.locks(2));
        due("none", 0, () -> x.locks(1));
        due("locks 0", NO_SUCH, () -> x.locks(0));
        due("locks 3", NO_SUCH, () -> x.locks(3));
        x.powerOff();
        due("off", 0, () -> x.locks(2));
        due("locks 3, off", NO_SUCH, () -> x.locks(3));
        promise = "24";
        due("off", 0, () -> x.lockedBy(3));
        promise = "25";
        due("off", 2, x::transactions);
        promise = "26";
        due("off, it stays open", 1, () -> x.state(2));
        x.recover();
        due("lost", 4, () -> x.state(2));
        promise = "27";
        due("lost", 0, () -> x.locks(2));
    }

    private static void blocks() {
        TransactionalFlash x = of("blocks 4 pages 5 logical 4 every 50;");
        promise = "29";
        due("none yet", -1, x::activeBlock);
        promise = "30";
        due("all", 4, x::freeBlocks);
        for (int i = 0; i < 6; i++) {
            x.write(0, i % 3, i);
        }
        promise = "29";
        due("active", 1, x::activeBlock);
        promise = "30";
        due("free", 2, x::freeBlocks);
        promise = "31";
        due("valid", 3, x::validPages);
        promise = "32";
        due("erase count", 0, () -> x.block(0, 0));
        due("not free", 5, () -> x.block(0, 1));
        due("valid", 2, () -> x.block(0, 2));
        due("torn", 0, () -> x.block(0, 3));
        due("block 4", NO_SUCH, () -> x.block(4, 0));
        due("block -1", NO_SUCH, () -> x.block(-1, 0));
        due("block 4, what 4", NO_SUCH, () -> x.block(4, 4));
        due("what 4", ARGUMENT, () -> x.block(0, 4));
        due("what -1", ARGUMENT, () -> x.block(0, -1));
        x.arm(1);
        due("a loss", STATE, () -> x.write(0, 0, 0));
        due("not free, off", 2, () -> x.block(1, 1));
        due("valid, off", 0, () -> x.block(1, 2));
        due("torn, off", 1, () -> x.block(1, 3));
        promise = "29";
        due("off", -1, x::activeBlock);
        promise = "30";
        due("off", 2, x::freeBlocks);
        promise = "31";
        due("off", 0, x::validPages);
        x.recover();
        due("after recovery", 3, x::validPages);
        promise = "29";
        due("behind a torn page", 1, x::activeBlock);
        promise = "23";
        x.write(0, 0, 0);
        due("behind a torn page", 7, () -> x.place(0));
    }

    private static void flashPages() {
        promise = "33";
        TransactionalFlash x = of("blocks 4 pages 5 logical 4 every 2; fill 10;");
        x.begin();
        x.write(1, 3, -1);
        x.commit(1);
        int[][] due = {{1, 0, 0, 1, 1, 10}, {1, 3, 1, 2, 2, -1}, {2, 1, 1, 3, 3, -2}, {3, 0, 1, 4, 4, -2},
            {4, 0, 1, 5, 5, -2}, {0, -1, -1, -1, -1, -2}};
        for (int place = 0; place < due.length; place++) {
            for (int what = 0; what < 6; what++) {
                int p = place;
                int w = what;
                due("page " + p + ", what " + w, due[p][w], () -> x.flashPage(p, w));
            }
        }
        due("page 20 of 20", NO_SUCH, () -> x.flashPage(20, 0));
        due("page -1", NO_SUCH, () -> x.flashPage(-1, 0));
        due("page 20, what 6", NO_SUCH, () -> x.flashPage(20, 6));
        due("what 6", ARGUMENT, () -> x.flashPage(0, 6));
        due("what -1", ARGUMENT, () -> x.flashPage(19, -1));
        x.arm(1);
        due("a loss", STATE, () -> x.write(0, 0, 5));
        int[] torn = {5, -1, -1, -1, -1, -2};
        for (int what = 0; what < 6; what++) {
            int w = what;
            due("a torn page, what " + w, torn[w], () -> x.flashPage(5, w));
        }
        due("off", 10, () -> x.flashPage(0, 5));
    }

    private static void validity() {
        promise = "34";
        TransactionalFlash x = of("blocks 4 pages 5 logical 4 every 50; fill 10;");
        x.begin();
        x.write(1, 3, 1);
        x.openReader();
        x.write(0, 0, 11);
        due("kept by a reader", 1, () -> Checks.bit(x.isValid(0)));
        due("in the shadow", 1, () -> Checks.bit(x.isValid(1)));
        due("committed", 1, () -> Checks.bit(x.isValid(2)));
        due("free", 0, () -> Checks.bit(x.isValid(3)));
        x.closeReader(0);
        due("kept no more", 0, () -> Checks.bit(x.isValid(0)));
        x.write(1, 3, 2);
        due("an earlier shadow", 0, () -> Checks.bit(x.isValid(1)));
        x.commit(1);
        due("a commit page", 1, () -> Checks.bit(x.isValid(4)));
        x.checkpoint();
        due("a commit page ahead of the end page", 0, () -> Checks.bit(x.isValid(4)));
        due("a map page", 1, () -> Checks.bit(x.isValid(5)));
        due("an end page", 1, () -> Checks.bit(x.isValid(6)));
        x.begin();
        x.write(2, 1, 1);
        x.abort(2);
        due("of an aborted transaction", 0, () -> Checks.bit(x.isValid(7)));
        due("page 20 of 20", NO_SUCH, () -> Checks.bit(x.isValid(20)));
        due("page -1", NO_SUCH, () -> Checks.bit(x.isValid(-1)));
        x.arm(1);
        due("a loss", STATE, () -> x.write(0, 0, 1));
        due("off", 0, () -> Checks.bit(x.isValid(2)));
        due("page 20, off", NO_SUCH, () -> Checks.bit(x.isValid(20)));
        x.recover();
        due("after recovery", 1, () -> Checks.bit(x.isValid(6)));
        due("torn", 0, () -> Checks.bit(x.isValid(8)));
    }

    private static void copies() {
        promise = "37";
        TransactionalFlash x = of("blocks 4 pages 5 logical 4 every 50; fill 10 20;");
        for (int i = 0; i < 8; i++) {
            x.write(0, 3, i);
        }
        due("two blocks are full", 2, x::freeBlocks);
        due("no copy yet", 0, x::copies);
        due("block 1 has the fewest valid pages", 11, () -> x.write(0, 3, 9) - 1);
        due("one copy", 1, x::copies);
        due("the copy keeps its version", 10, () -> x.flashPage(10, 3));
        due("the copy has a new sequence number", 11, () -> x.flashPage(10, 4));
        due("the copy keeps its value", 7, () -> x.flashPage(10, 5));
        promise = "35";
        due("programs with the copy", 12, x::programs);
        promise = "36";
        due("erases", 1, x::erases);
        promise = "38";
        due("writes without the copy", 11, x::writes);
        promise = "39";
        due("wearGap", 1, x::wearGap);
        for (int i = 0; i < 3; i++) {
            x.write(0, 3, i);
        }
        x.arm(3);
        promise = "37";
        due("a loss behind a copy and an erasing", STATE, () -> x.write(0, 3, 5));
        due("two copies", 2, x::copies);
        due("two erasings", 2, x::erases);
        x.recover();
        due("after the loss", 10, () -> x.read(0, 0));
    }

    private static void counts() {
        TransactionalFlash x = of(FOUR);
        promise = "40";
        due("none", 0, x::lastCheckpoint);
        promise = "41";
        due("of the format", 2, x::commits);
        x.begin();
        x.write(1, 0, 1);
        due("not yet", 2, x::commits);
        x.commit(1);
        due("a checkpoint came", 0, x::commits);
        x.write(0, 1, 1);
        due("one", 1, x::commits);
        promise = "40";
        due("one", 1, x::lastCheckpoint);
        promise = "35";
        due("two values, a write, a commit, two for the checkpoint, a write", 7, x::programs);
        promise = "38";
        due("writes", 4, x::writes);
        x.arm(1);
        promise = "42";
        due("none", 0, x::losses);
        due("a loss", STATE, () -> x.write(0, 0, 1));
        due("one", 1, x::losses);
        promise = "35";
        due("without the torn page", 7, x::programs);
        promise = "38";
        due("without the failed write", 4, x::writes);
        promise = "40";
        due("off", 0, x::lastCheckpoint);
        promise = "41";
        due("off", 0, x::commits);
        x.recover();
        due("after recovery", 1, x::commits);
        promise = "40";
        due("after recovery", 1, x::lastCheckpoint);
        promise = "42";
        x.powerOff();
        due("two", 2, x::losses);
        promise = "36";
        due("none", 0, x::erases);
        promise = "39";
        due("none", 0, x::wearGap);
    }

    private static void victim() {
        promise = "43";
        TransactionalFlash x = of(TINY);
        due("all free", -1, x::victim);
        for (int i = 0; i < 4; i++) {
            x.write(0, 0, i);
        }
        due("three blocks are free", -1, x::victim);
        x.write(0, 0, 4);
        due("two blocks are free", 0, x::victim);
        x.write(0, 0, 5);
        due("two blocks are free", 0, x::victim);
        x.write(0, 0, 6);
        due("the next one", 1, x::victim);
        x.openReader();
        x.powerOff();
        due("off", -1, x::victim);

        TransactionalFlash y = of("blocks 4 pages 5 logical 5 every 50; fill 1 2 3 4 5;");
        y.write(0, 0, 6);
        due("the active block counts too, as it is active no more", 1, y::victim);
        y.write(0, 1, 6);
        y.write(0, 2, 6);
        due("the fewest valid pages", 0, y::victim);
    }
}
