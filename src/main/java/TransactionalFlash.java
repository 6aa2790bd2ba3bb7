import java.util.NoSuchElementException;

/** A simulator of a flash translation layer with transactions over logical pages. */
public final class TransactionalFlash {
    private static final int MAX_BLOCKS = 32;
    private static final int MAX_PLACES = 1024;
    private static final int MAX_LOGICAL = 64;
    private static final int PART_SIZE = 8;
    private static final int MAX_TRANSACTIONS = 1000;
    private static final int MAX_OPEN = 6;
    private static final int MAX_READERS = 4;
    private static final int MAX_TEXT = 600;
    private static final int FEED_BYTES = 20;
    private static final int MAX_ARMED = 1000;

    private static final int NO_VALUE = -1;
    private static final int MAX_VALUE = 999999;
    private static final int NOT_DATA = -2;

    private static final int FREE = 0;
    private static final int DATA = 1;
    private static final int COMMIT = 2;
    private static final int MAP = 3;
    private static final int END = 4;
    private static final int TORN = 5;

    private static final int OPEN = 1;
    private static final int COMMITTED = 2;
    private static final int ABORTED = 3;
    private static final int LOST = 4;

    private static final int SYNTAX = 1;
    private static final int RANGE = 2;
    private static final int LIMIT = 3;

    private final FormatText text = new FormatText();
    private final Device device = new Device();

    public TransactionalFlash() {
    }

    // ---- input

    public int feed(int a, int b, int c, int d, int e) throws IllegalStateException {
        if (text.length > MAX_TEXT - FEED_BYTES) {
            throw new IllegalStateException("the buffer is full");
        }
        text.append(a);
        text.append(b);
        text.append(c);
        text.append(d);
        text.append(e);
        return text.length;
    }

    public int format(int length) throws IllegalArgumentException, IllegalStateException {
        if (length < 0 || length > text.length) {
            throw new IllegalArgumentException("length is out of range");
        }
        text.parse(length);
        text.length = 0;
        if (text.errorFound != 0) {
            throw new IllegalStateException("the text has an error");
        }
        device.beginAnew(text.blockCount, text.blockSize, text.logicalCount, text.every);
        for (int i = 0; i < text.valueCount; i++) {
            device.writeOutside(i, text.values[i]);
        }
        return text.valueCount;
    }

    public int errorCode() {
        return text.errorFound;
    }

    public int errorPosition() {
        return text.errorPlace;
    }

    // ---- transactions and readers

    public int begin() throws IllegalStateException {
        Ledger ledger = device.ledger;
        if (!device.on || ledger.countOpen() >= MAX_OPEN || ledger.begun >= MAX_TRANSACTIONS) {
            throw new IllegalStateException("no transaction can begin");
        }
        return ledger.open();
    }

    public int write(int transaction, int page, int value)
            throws NoSuchElementException, IllegalArgumentException, IllegalStateException {
        if (!isNoneOrKnown(transaction) || !device.table.has(page)) {
            throw new NoSuchElementException("no such transaction or logical page");
        }
        if (value < NO_VALUE || value > MAX_VALUE) {
            throw new IllegalArgumentException("value is out of range");
        }
        if (!device.on || !isNoneOrOpen(transaction) || device.table.isLockedAgainst(page, transaction)) {
            throw new IllegalStateException("the logical page can't be written");
        }
        if (!device.hasRoomFor(transaction == 0 ? device.pagesOfNextCommit() : 1)) {
            throw new IllegalStateException("there is not enough room");
        }
        int written = transaction == 0
                ? device.writeOutside(page, value)
                : device.writeInside(transaction, page, value);
        if (written < 0) {
            throw new IllegalStateException("power is lost");
        }
        return written;
    }

    public int read(int transaction, int page) throws NoSuchElementException, IllegalStateException {
        if (!isNoneOrKnown(transaction) || !device.table.has(page)) {
            throw new NoSuchElementException("no such transaction or logical page");
        }
        if (!device.on || !isNoneOrOpen(transaction)) {
            throw new IllegalStateException("the logical page can't be read");
        }
        return device.valueOf(page, device.table.versionSeenBy(transaction, page));
    }

    public int commit(int transaction) throws NoSuchElementException, IllegalStateException {
        if (!device.ledger.knows(transaction)) {
            throw new NoSuchElementException("no such transaction");
        }
        if (!device.on || !device.ledger.isOpen(transaction)) {
            throw new IllegalStateException("the transaction can't be committed");
        }
        int written = device.table.countLocked(transaction);
        if (written > 0 && !device.hasRoomFor(device.pagesOfNextCommit())) {
            throw new IllegalStateException("there is not enough room");
        }
        if (!device.commitTransaction(transaction, written)) {
            throw new IllegalStateException("power is lost");
        }
        return written;
    }

    public int abort(int transaction) throws NoSuchElementException, IllegalStateException {
        if (!device.ledger.knows(transaction)) {
            throw new NoSuchElementException("no such transaction");
        }
        if (!device.on || !device.ledger.isOpen(transaction)) {
            throw new IllegalStateException("the transaction can't be aborted");
        }
        int written = device.table.countLocked(transaction);
        device.table.release(transaction);
        device.ledger.close(transaction, ABORTED);
        return written;
    }

    public int openReader() throws IllegalStateException {
        int reader = device.on ? device.table.addReader() : -1;
        if (reader < 0) {
            throw new IllegalStateException("no reader can be opened");
        }
        return reader;
    }

    public int readBy(int reader, int page) throws NoSuchElementException {
        if (!device.table.hasReader(reader) || !device.table.has(page)) {
            throw new NoSuchElementException("no such open reader or logical page");
        }
        return device.valueOf(page, device.table.versionKeptBy(reader, page));
    }

    public int closeReader(int reader) throws NoSuchElementException {
        if (!device.table.hasReader(reader)) {
            throw new NoSuchElementException("no such open reader");
        }
        return device.table.removeReader(reader);
    }

    public int checkpoint() throws IllegalStateException {
        if (!device.on) {
            throw new IllegalStateException("the device is off");
        }
        if (!device.hasRoomFor(device.table.parts + 1)) {
            throw new IllegalStateException("there is not enough room");
        }
        if (!device.makeCheckpoint()) {
            throw new IllegalStateException("power is lost");
        }
        return device.latest;
    }

    // ---- power

    public boolean isOn() {
        return device.on;
    }

    public int arm(int n) throws IllegalArgumentException {
        if (n < 0 || n > MAX_ARMED) {
            throw new IllegalArgumentException("n is out of range");
        }
        int before = device.flash.armed;
        if (device.isFormatted()) {
            device.flash.armed = n;
        }
        return before;
    }

    public int powerOff() throws IllegalStateException {
        if (!device.on) {
            throw new IllegalStateException("the device is off");
        }
        device.losePower();
        return device.ledger.countOpen();
    }

    public int recover() throws IllegalStateException {
        if (device.on || !device.isFormatted()) {
            throw new IllegalStateException("there is nothing to recover");
        }
        if (!device.restore()) {
            throw new IllegalStateException("power is lost");
        }
        return device.table.countWritten();
    }

    // ---- questions

    public int logicalPages() {
        return device.table.pages;
    }

    public int blocks() {
        return device.flash.blockCount;
    }

    public int pagesPerBlock() {
        return device.flash.blockSize;
    }

    public int version(int page) throws NoSuchElementException {
        if (!device.table.has(page)) {
            throw new NoSuchElementException("no such logical page");
        }
        return device.on ? device.table.versionSeenBy(0, page) : -1;
    }

    public int place(int page) throws NoSuchElementException {
        if (!device.table.has(page)) {
            throw new NoSuchElementException("no such logical page");
        }
        return device.on ? device.flash.findData(page, device.table.versionSeenBy(0, page)) : -1;
    }

    public int lockedBy(int page) throws NoSuchElementException {
        if (!device.table.has(page)) {
            throw new NoSuchElementException("no such logical page");
        }
        return device.table.ownerOf(page);
    }

    public int transactions() {
        return device.ledger.begun;
    }

    public int state(int transaction) throws NoSuchElementException {
        if (!device.ledger.knows(transaction)) {
            throw new NoSuchElementException("no such transaction");
        }
        return device.ledger.stateOf(transaction);
    }

    public int locks(int transaction) throws NoSuchElementException {
        if (!device.ledger.knows(transaction)) {
            throw new NoSuchElementException("no such transaction");
        }
        return device.table.countLocked(transaction);
    }

    public int readers() {
        return device.table.readerBits;
    }

    public int activeBlock() {
        return device.active;
    }

    public int freeBlocks() {
        return device.flash.countFreeBlocks(device.active);
    }

    public int validPages() {
        return device.on ? device.countLive() : 0;
    }

    public int block(int block, int what) throws NoSuchElementException, IllegalArgumentException {
        Flash flash = device.flash;
        if (!flash.hasBlock(block)) {
            throw new NoSuchElementException("no such block");
        }
        switch (what) {
            case 0:
                return flash.wear[block];
            case 1:
                return flash.used[block];
            case 2:
                return device.on ? device.countLiveIn(block) : 0;
            case 3:
                return flash.countTornIn(block);
            default:
                throw new IllegalArgumentException("what is out of range");
        }
    }

    public int flashPage(int place, int what) throws NoSuchElementException, IllegalArgumentException {
        Flash flash = device.flash;
        if (!flash.hasPlace(place)) {
            throw new NoSuchElementException("no such page");
        }
        switch (what) {
            case 0:
                return flash.kind[place];
            case 1:
                return flash.index[place];
            case 2:
                return flash.group[place];
            case 3:
                return flash.version[place];
            case 4:
                return flash.sequence[place];
            case 5:
                return flash.value[place];
            default:
                throw new IllegalArgumentException("what is out of range");
        }
    }

    public boolean isValid(int place) throws NoSuchElementException {
        if (!device.flash.hasPlace(place)) {
            throw new NoSuchElementException("no such page");
        }
        return device.on && device.isLive(place);
    }

    public int programs() {
        return device.flash.programCount;
    }

    public int erases() {
        return device.flash.eraseCount;
    }

    public int copies() {
        return device.flash.copyCount;
    }

    public int writes() {
        return device.writeCount;
    }

    public int wearGap() {
        return device.flash.wearDifference();
    }

    public int lastCheckpoint() {
        return device.latest;
    }

    public int commits() {
        return device.commitCount;
    }

    public int losses() {
        return device.lossCount;
    }

    public int victim() {
        return device.on ? device.nextVictim() : -1;
    }

    private boolean isNoneOrKnown(int transaction) {
        return transaction == 0 || device.ledger.knows(transaction);
    }

    private boolean isNoneOrOpen(int transaction) {
        return transaction == 0 || device.ledger.isOpen(transaction);
    }

    /** The input buffer, and what the latest text in it asked for. */
    private static final class FormatText {
        private static final int NUMBER_DIGITS = 6;
        private static final int STEP_LOGICAL = 5;
        private static final int STEP_HEAD_END = 8;
        private static final int STEP_FILL_OR_END = 9;
        private static final int STEP_FIRST_VALUE = 10;
        private static final int STEP_NEXT_VALUE = 11;

        final int[] bytes = new int[MAX_TEXT];
        final int[] values = new int[MAX_LOGICAL];
        int length;
        int errorFound;
        int errorPlace = -1;
        int blockCount;
        int blockSize;
        int logicalCount;
        int every;
        int valueCount;
        int step;

        void append(int word) {
            for (int shift = 24; shift >= 0 && length < MAX_TEXT; shift -= 8) {
                bytes[length] = (word >>> shift) & 255;
                length++;
            }
        }

        /** Reads the first end bytes, up to the first error, which is the one with the least position. */
        void parse(int end) {
            errorFound = 0;
            errorPlace = -1;
            valueCount = 0;
            step = 0;
            int position = 0;
            int joint = -1;
            while (position < end && errorFound == 0) {
                int start = position;
                int sign = bytes[start];
                position = start + 1;
                if (isLetter(sign) || isDigit(sign)) {
                    position = Math.max(position, endOfRun(start, end, isLetter(sign)));
                    int error = start == joint ? SYNTAX : takeRun(start, position, isLetter(sign));
                    setError(error, start);
                    joint = position;
                } else if (sign == ';') {
                    setError(takeSemicolon(), start);
                } else if (sign != ' ' && sign != '\n') {
                    setError(SYNTAX, start);
                }
            }
            if (errorFound == 0 && step != STEP_FILL_OR_END) {
                setError(SYNTAX, end);
            }
        }

        private void setError(int error, int position) {
            if (error != 0) {
                errorFound = error;
                errorPlace = position;
            }
        }

        private static boolean isLetter(int sign) {
            return sign >= 'a' && sign <= 'z';
        }

        private static boolean isDigit(int sign) {
            return sign >= '0' && sign <= '9';
        }

        private int endOfRun(int start, int end, boolean letters) {
            int position = start;
            while (position < end && (letters ? isLetter(bytes[position]) : isDigit(bytes[position]))) {
                position++;
            }
            return position;
        }

        private int takeRun(int start, int end, boolean letters) {
            return letters ? takeWord(start, end) : takeNumber(start, end);
        }

        private int takeSemicolon() {
            if (step != STEP_HEAD_END && step != STEP_NEXT_VALUE) {
                return SYNTAX;
            }
            step = STEP_FILL_OR_END;
            return 0;
        }

        private int takeWord(int start, int end) {
            String due = wordDue();
            if (end - start != due.length()) {
                return SYNTAX;
            }
            for (int i = 0; i < due.length(); i++) {
                if (bytes[start + i] != due.charAt(i)) {
                    return SYNTAX;
                }
            }
            step++;
            return 0;
        }

        /** The word that the grammar allows now; empty if it allows none. */
        private String wordDue() {
            switch (step) {
                case 0:
                    return "blocks";
                case 2:
                    return "pages";
                case 4:
                    return "logical";
                case 6:
                    return "every";
                case STEP_FILL_OR_END:
                    return "fill";
                default:
                    return "";
            }
        }

        private int takeNumber(int start, int end) {
            if (end - start > NUMBER_DIGITS) {
                return SYNTAX;
            }
            int number = 0;
            for (int i = start; i < end; i++) {
                number = number * 10 + (bytes[i] - '0');
            }
            switch (step) {
                case 1:
                    blockCount = number;
                    return stepOnIf(number >= 4 && number <= 32);
                case 3:
                    blockSize = number;
                    return stepOnIf(number >= 2 && number <= 32);
                case STEP_LOGICAL:
                    logicalCount = number;
                    return stepOnIf(number >= 1 && number <= MAX_LOGICAL && hasSpaceFor(number));
                case 7:
                    every = number;
                    return stepOnIf(number >= 1 && number <= 50);
                case STEP_FIRST_VALUE:
                case STEP_NEXT_VALUE:
                    return takeValue(number);
                default:
                    return SYNTAX;
            }
        }

        private int stepOnIf(boolean inRange) {
            if (!inRange) {
                return RANGE;
            }
            step++;
            return 0;
        }

        private boolean hasSpaceFor(int logical) {
            int parts = (logical + PART_SIZE - 1) / PART_SIZE;
            return (blockCount - 2) * blockSize >= logical + 2 * (parts + 1) + 1;
        }

        private int takeValue(int number) {
            if (valueCount >= logicalCount || valueCount >= MAX_LOGICAL) {
                return LIMIT;
            }
            values[valueCount] = number;
            valueCount++;
            step = STEP_NEXT_VALUE;
            return 0;
        }
    }

    /** The flash itself: pages with their spare areas, blocks, and the flash operations. */
    private static final class Flash {
        final int[] kind = new int[MAX_PLACES];
        final int[] index = new int[MAX_PLACES];
        final int[] group = new int[MAX_PLACES];
        final int[] version = new int[MAX_PLACES];
        final int[] sequence = new int[MAX_PLACES];
        final int[] value = new int[MAX_PLACES];
        final int[] mapped = new int[MAX_PLACES * PART_SIZE];
        final boolean[] copied = new boolean[MAX_PLACES];
        // The pages of a block that are not free are its first ones, so their number tells which they are.
        final int[] used = new int[MAX_BLOCKS];
        final int[] wear = new int[MAX_BLOCKS];
        int blockCount;
        int blockSize;
        int placeCount;
        int lastSequence;
        int programCount;
        int eraseCount;
        int copyCount;
        int armed;

        void clearAll(int newBlockCount, int newBlockSize) {
            blockCount = newBlockCount;
            blockSize = newBlockSize;
            placeCount = newBlockCount * newBlockSize;
            for (int i = 0; i < MAX_PLACES; i++) {
                clearPage(i, FREE);
            }
            for (int i = 0; i < MAX_BLOCKS; i++) {
                used[i] = 0;
                wear[i] = 0;
            }
            lastSequence = 0;
            programCount = 0;
            eraseCount = 0;
            copyCount = 0;
            armed = 0;
        }

        private void clearPage(int place, int newKind) {
            if (place < 0 || place >= MAX_PLACES) {
                return;
            }
            kind[place] = newKind;
            index[place] = -1;
            group[place] = -1;
            version[place] = -1;
            sequence[place] = -1;
            value[place] = NOT_DATA;
            copied[place] = false;
        }

        boolean hasBlock(int block) {
            return block >= 0 && block < blockCount;
        }

        boolean hasPlace(int place) {
            return place >= 0 && place < placeCount;
        }

        /** Counts one flash operation; true if power is lost at it. */
        private boolean losesPower() {
            if (armed == 0) {
                return false;
            }
            armed--;
            return armed == 0;
        }

        int countFreePages(int block) {
            return hasBlock(block) ? blockSize - used[block] : 0;
        }

        /** Programs the lowest free page of a block; answers its place, or -1 if power is lost. */
        int program(int block, int newKind, int newIndex, int newGroup, int newValue) {
            if (!hasBlock(block) || used[block] >= blockSize) {
                return -1;
            }
            int place = block * blockSize + used[block];
            used[block]++;
            if (losesPower()) {
                clearPage(place, TORN);
                return -1;
            }
            lastSequence++;
            programCount++;
            kind[place] = newKind;
            index[place] = newIndex;
            group[place] = newGroup;
            version[place] = lastSequence;
            sequence[place] = lastSequence;
            value[place] = newValue;
            return place;
        }

        /** Makes a page that has just been programmed the copy of another one. */
        void makeCopy(int place, int from) {
            if (!hasPlace(place) || !hasPlace(from)) {
                return;
            }
            version[place] = version[from];
            for (int i = 0; i < PART_SIZE; i++) {
                mapped[place * PART_SIZE + i] = mapped[from * PART_SIZE + i];
            }
            copied[from] = true;
            copyCount++;
        }

        /** Erases a block; false if power is lost. */
        boolean erase(int block) {
            if (!hasBlock(block)) {
                return true;
            }
            boolean lost = losesPower();
            for (int i = 0; i < blockSize; i++) {
                clearPage(block * blockSize + i, lost ? TORN : FREE);
            }
            used[block] = lost ? blockSize : 0;
            if (!lost) {
                wear[block]++;
                eraseCount++;
            }
            return !lost;
        }

        int countFreeBlocks(int activeBlock) {
            int count = 0;
            for (int i = 0; i < blockCount; i++) {
                if (used[i] == 0 && i != activeBlock) {
                    count++;
                }
            }
            return count;
        }

        /** The free block with the least erase count, the lowest one of several; -1 if none is free. */
        int leastWornFreeBlock(int activeBlock) {
            int best = -1;
            for (int i = 0; i < blockCount; i++) {
                if (used[i] == 0 && i != activeBlock && (best < 0 || wear[i] < wear[best])) {
                    best = i;
                }
            }
            return best;
        }

        int countTornIn(int block) {
            int count = 0;
            for (int i = 0; hasBlock(block) && i < blockSize; i++) {
                if (kind[block * blockSize + i] == TORN) {
                    count++;
                }
            }
            return count;
        }

        int wearDifference() {
            int least = wear[0];
            int greatest = wear[0];
            for (int i = 1; i < blockCount; i++) {
                least = Math.min(least, wear[i]);
                greatest = Math.max(greatest, wear[i]);
            }
            return greatest - least;
        }

        /** The place of the newest data page with this version of a logical page; -1 if there is none. */
        int findData(int page, int wanted) {
            for (int i = 0; i < placeCount; i++) {
                if (kind[i] == DATA && index[i] == page && version[i] == wanted && !copied[i]) {
                    return i;
                }
            }
            return -1;
        }

        /** The place of the end page with the greatest version; -1 if there is none. */
        int findLatestEnd() {
            int best = -1;
            for (int i = 0; i < placeCount; i++) {
                if (kind[i] == END && (best < 0 || version[i] > version[best])) {
                    best = i;
                }
            }
            return best;
        }

        /** The block of the programmed page with the greatest sequence number; -1 if there is none. */
        int findNewestBlock() {
            int best = -1;
            int greatest = 0;
            for (int i = 0; i < blockCount; i++) {
                for (int j = 0; j < blockSize; j++) {
                    int found = sequence[i * blockSize + j];
                    if (found > greatest) {
                        greatest = found;
                        best = i;
                    }
                }
            }
            return best;
        }
    }

    /** The transactions and their states. */
    private static final class Ledger {
        final int[] states = new int[MAX_TRANSACTIONS + 1];
        int begun;

        boolean knows(int transaction) {
            return transaction >= 1 && transaction <= begun;
        }

        int stateOf(int transaction) {
            return knows(transaction) ? states[transaction] : 0;
        }

        boolean isOpen(int transaction) {
            return stateOf(transaction) == OPEN;
        }

        int countOpen() {
            int count = 0;
            for (int i = 1; i <= begun; i++) {
                if (states[i] == OPEN) {
                    count++;
                }
            }
            return count;
        }

        int open() {
            if (begun < MAX_TRANSACTIONS) {
                begun++;
                states[begun] = OPEN;
            }
            return begun;
        }

        void close(int transaction, int state) {
            if (knows(transaction)) {
                states[transaction] = state;
            }
        }

        void loseOpen() {
            for (int i = 1; i <= begun; i++) {
                if (states[i] == OPEN) {
                    states[i] = LOST;
                }
            }
        }
    }

    /** The versions of the logical pages: committed, in the shadow, and kept by readers. */
    private static final class PageTable {
        final int[] committed = new int[MAX_LOGICAL];
        final int[] shadows = new int[MAX_LOGICAL];
        final int[] owners = new int[MAX_LOGICAL];
        final int[] kept = new int[MAX_READERS * MAX_LOGICAL];
        int pages;
        int parts;
        int readerBits;

        void clearAll(int newPages) {
            pages = newPages;
            parts = (newPages + PART_SIZE - 1) / PART_SIZE;
            forget();
        }

        void forget() {
            for (int i = 0; i < MAX_LOGICAL; i++) {
                committed[i] = 0;
                shadows[i] = 0;
                owners[i] = 0;
            }
            readerBits = 0;
        }

        boolean has(int page) {
            return page >= 0 && page < pages;
        }

        int versionSeenBy(int transaction, int page) {
            if (!has(page)) {
                return 0;
            }
            return transaction != 0 && owners[page] == transaction ? shadows[page] : committed[page];
        }

        void setCommitted(int page, int version) {
            if (has(page)) {
                committed[page] = version;
            }
        }

        int countWritten() {
            int count = 0;
            for (int i = 0; i < pages; i++) {
                if (committed[i] != 0) {
                    count++;
                }
            }
            return count;
        }

        int ownerOf(int page) {
            return has(page) ? owners[page] : 0;
        }

        boolean isLockedAgainst(int page, int transaction) {
            int owner = ownerOf(page);
            return owner != 0 && owner != transaction;
        }

        void putInShadow(int transaction, int page, int version) {
            if (has(page)) {
                owners[page] = transaction;
                shadows[page] = version;
            }
        }

        int countLocked(int transaction) {
            int count = 0;
            for (int i = 0; i < pages; i++) {
                if (owners[i] == transaction) {
                    count++;
                }
            }
            return count;
        }

        void release(int transaction) {
            for (int i = 0; i < pages; i++) {
                if (owners[i] == transaction) {
                    owners[i] = 0;
                    shadows[i] = 0;
                }
            }
        }

        void commitShadows(int transaction) {
            for (int i = 0; i < pages; i++) {
                if (owners[i] == transaction) {
                    committed[i] = shadows[i];
                }
            }
            release(transaction);
        }

        boolean hasReader(int reader) {
            return reader >= 0 && reader < MAX_READERS && (readerBits >>> reader & 1) == 1;
        }

        /** Opens the reader with the lowest number that is not in use; -1 if there is none. */
        int addReader() {
            for (int reader = 0; reader < MAX_READERS; reader++) {
                if (!hasReader(reader)) {
                    readerBits |= 1 << reader;
                    for (int i = 0; i < MAX_LOGICAL; i++) {
                        kept[reader * MAX_LOGICAL + i] = committed[i];
                    }
                    return reader;
                }
            }
            return -1;
        }

        int removeReader(int reader) {
            if (hasReader(reader)) {
                readerBits &= ~(1 << reader);
            }
            return Integer.bitCount(readerBits);
        }

        int versionKeptBy(int reader, int page) {
            return hasReader(reader) && has(page) ? kept[reader * MAX_LOGICAL + page] : 0;
        }

        /** Whether someone can still ask for this version of a logical page. */
        boolean keeps(int page, int version) {
            if (page < 0 || page >= pages) {
                return false;
            }
            if (committed[page] == version || shadows[page] == version) {
                return true;
            }
            for (int reader = 0; reader < MAX_READERS; reader++) {
                if ((readerBits >>> reader & 1) == 1 && kept[reader * MAX_LOGICAL + page] == version) {
                    return true;
                }
            }
            return false;
        }
    }

    /** What recovery does with the commit pages and the data pages outside transactions. */
    private static final class Replay {
        final int[] log = new int[MAX_PLACES];
        final int[] newest = new int[MAX_LOGICAL];
        int size;

        /** Applies the pages with a version greater than this one; answers their number, copies counted once. */
        int apply(Flash flash, PageTable table, int after) {
            gather(flash, after);
            sortByVersion(flash);
            int count = 0;
            int last = 0;
            for (int i = 0; i < size; i++) {
                int place = log[i];
                int version = flash.version[place];
                if (version != last) {
                    count++;
                    if (flash.kind[place] == DATA) {
                        table.setCommitted(flash.index[place], version);
                    } else {
                        applyCommit(flash, table, flash.group[place]);
                    }
                }
                last = version;
            }
            return count;
        }

        private void gather(Flash flash, int after) {
            size = 0;
            for (int i = 0; i < flash.placeCount; i++) {
                int kind = flash.kind[i];
                boolean logged = kind == COMMIT || kind == DATA && flash.group[i] == 0;
                if (logged && flash.version[i] > after) {
                    log[size] = i;
                    size++;
                }
            }
        }

        private void sortByVersion(Flash flash) {
            for (int gap = size / 2; gap > 0; gap /= 2) {
                for (int i = gap; i < size; i++) {
                    int place = log[i];
                    int hole = i;
                    while (hole >= gap && flash.version[log[hole - gap]] > flash.version[place]) {
                        log[hole] = log[hole - gap];
                        hole -= gap;
                    }
                    log[hole] = place;
                }
            }
        }

        private void applyCommit(Flash flash, PageTable table, int transaction) {
            for (int i = 0; i < MAX_LOGICAL; i++) {
                newest[i] = 0;
            }
            for (int i = 0; i < flash.placeCount; i++) {
                int page = flash.index[i];
                if (flash.kind[i] == DATA && flash.group[i] == transaction && page >= 0 && page < MAX_LOGICAL) {
                    newest[page] = Math.max(newest[page], flash.version[i]);
                }
            }
            for (int i = 0; i < MAX_LOGICAL; i++) {
                if (newest[i] > 0) {
                    table.setCommitted(i, newest[i]);
                }
            }
        }
    }

    /** The flash with all that stands in memory as long as there is power. */
    private static final class Device {
        final Flash flash = new Flash();
        final Ledger ledger = new Ledger();
        final PageTable table = new PageTable();
        final Replay replay = new Replay();
        final int[] liveIn = new int[MAX_BLOCKS];
        boolean on;
        int active = -1;
        int every;
        int commitCount;
        int checkpointCount;
        int latest;
        int latestEnd;
        int inTheMaking;
        int writeCount;
        int lossCount;

        boolean isFormatted() {
            return flash.blockCount > 0;
        }

        void beginAnew(int blockCount, int blockSize, int logicalCount, int newEvery) {
            flash.clearAll(blockCount, blockSize);
            ledger.begun = 0;
            table.clearAll(logicalCount);
            every = newEvery;
            active = -1;
            commitCount = 0;
            checkpointCount = 0;
            latest = 0;
            latestEnd = 0;
            inTheMaking = 0;
            writeCount = 0;
            lossCount = 0;
            on = true;
        }

        void losePower() {
            on = false;
            lossCount++;
            table.forget();
            active = -1;
            latest = 0;
            latestEnd = 0;
            inTheMaking = 0;
            commitCount = 0;
        }

        // valid pages

        boolean isLive(int place) {
            if (!flash.hasPlace(place) || flash.copied[place]) {
                return false;
            }
            switch (flash.kind[place]) {
                case DATA:
                    return table.keeps(flash.index[place], flash.version[place]);
                case COMMIT:
                    return flash.version[place] > latestEnd;
                case MAP:
                    return flash.group[place] == latest || flash.group[place] == inTheMaking;
                case END:
                    return flash.group[place] == latest;
                default:
                    return false;
            }
        }

        int countLiveIn(int block) {
            int count = 0;
            for (int i = 0; i < flash.blockSize; i++) {
                if (isLive(block * flash.blockSize + i)) {
                    count++;
                }
            }
            return count;
        }

        /** Counts the valid pages, and notes those of each block in liveIn. */
        int countLive() {
            int total = 0;
            for (int i = 0; i < flash.blockCount; i++) {
                liveIn[i] = 0;
                for (int j = 0; j < flash.used[i]; j++) {
                    if (isLive(i * flash.blockSize + j)) {
                        liveIn[i]++;
                    }
                }
                total += liveIn[i];
            }
            return total;
        }

        boolean hasRoomFor(int pages) {
            return countLive() + pages <= (flash.blockCount - 2) * flash.blockSize;
        }

        int pagesOfNextCommit() {
            return commitCount + 1 >= every ? table.parts + 2 : 1;
        }

        int valueOf(int page, int version) {
            int place = version == 0 ? -1 : flash.findData(page, version);
            return flash.hasPlace(place) ? flash.value[place] : NO_VALUE;
        }

        // programming and garbage

        /** Programs a page in the active block; answers its place, or -1 if power is lost. */
        int program(int kind, int index, int group, int value) {
            int place = -1;
            if (flash.countFreePages(active) > 0 || makeRoom()) {
                place = flash.program(active, kind, index, group, value);
            }
            if (place < 0) {
                losePower();
            }
            return place;
        }

        /** False if power is lost. */
        private boolean makeRoom() {
            active = flash.leastWornFreeBlock(active);
            if (active < 0) {
                return false;
            }
            for (int round = 0; round < 2 && flash.countFreeBlocks(active) < 2; round++) {
                countLive();
                int chosen = chooseVictim(active);
                if (chosen < 0) {
                    return true;
                }
                if (!collect(chosen)) {
                    return false;
                }
            }
            return true;
        }

        /** By liveIn, the block to be collected next if this block is the active one; -1 if there is none. */
        private int chooseVictim(int activeBlock) {
            int limit = flash.countFreePages(activeBlock);
            int best = -1;
            for (int i = 0; i < flash.blockCount; i++) {
                boolean eligible = flash.used[i] > 0 && i != activeBlock && liveIn[i] < limit;
                if (eligible && (best < 0 || isBetterVictim(i, best))) {
                    best = i;
                }
            }
            return best;
        }

        private boolean isBetterVictim(int block, int best) {
            if (liveIn[block] != liveIn[best]) {
                return liveIn[block] < liveIn[best];
            }
            return flash.wear[block] < flash.wear[best];
        }

        /** Copies the valid pages of a block to the active one and erases it; false if power is lost. */
        private boolean collect(int block) {
            for (int i = 0; i < flash.blockSize; i++) {
                int from = block * flash.blockSize + i;
                if (isLive(from)) {
                    int place = flash.program(active, flash.kind[from], flash.index[from],
                            flash.group[from], flash.value[from]);
                    if (place < 0) {
                        return false;
                    }
                    flash.makeCopy(place, from);
                }
            }
            return flash.erase(block);
        }

        int nextVictim() {
            int fresh = flash.leastWornFreeBlock(active);
            if (fresh < 0 || flash.countFreeBlocks(fresh) >= 2) {
                return -1;
            }
            countLive();
            return chooseVictim(fresh);
        }

        // writing

        /** Answers the version, or -1 if power is lost. */
        int writeInside(int transaction, int page, int value) {
            int place = program(DATA, page, transaction, value);
            if (!flash.hasPlace(place)) {
                return -1;
            }
            table.putInShadow(transaction, page, flash.version[place]);
            writeCount++;
            return flash.version[place];
        }

        /** Answers the version, or -1 if power is lost. */
        int writeOutside(int page, int value) {
            int place = program(DATA, page, 0, value);
            if (!flash.hasPlace(place)) {
                return -1;
            }
            // A checkpoint may move the page that has just been written, so its version is kept here.
            int version = flash.version[place];
            table.setCommitted(page, version);
            commitCount++;
            if (commitCount >= every && !makeCheckpoint()) {
                return -1;
            }
            writeCount++;
            return version;
        }

        /** False if power is lost. */
        boolean commitTransaction(int transaction, int written) {
            if (written == 0) {
                ledger.close(transaction, COMMITTED);
                return true;
            }
            if (program(COMMIT, written, transaction, NOT_DATA) < 0) {
                return false;
            }
            table.commitShadows(transaction);
            ledger.close(transaction, COMMITTED);
            commitCount++;
            return commitCount < every || makeCheckpoint();
        }

        /** False if power is lost. */
        boolean makeCheckpoint() {
            checkpointCount++;
            inTheMaking = checkpointCount;
            for (int part = 0; part < table.parts; part++) {
                int place = program(MAP, part, checkpointCount, NOT_DATA);
                if (place < 0) {
                    return false;
                }
                fillMapPage(place, part);
            }
            int place = program(END, 0, checkpointCount, NOT_DATA);
            if (!flash.hasPlace(place)) {
                return false;
            }
            latest = checkpointCount;
            latestEnd = flash.version[place];
            inTheMaking = 0;
            commitCount = 0;
            return true;
        }

        private void fillMapPage(int place, int part) {
            for (int i = 0; flash.hasPlace(place) && i < PART_SIZE; i++) {
                flash.mapped[place * PART_SIZE + i] = table.versionSeenBy(0, part * PART_SIZE + i);
            }
        }

        // recovery

        /** False if power is lost. */
        boolean restore() {
            int end = flash.findLatestEnd();
            if (flash.hasPlace(end)) {
                latest = flash.group[end];
                latestEnd = flash.version[end];
                readMap();
            }
            commitCount = replay.apply(flash, table, latestEnd);
            ledger.loseOpen();
            on = true;
            if (!eraseDeadBlocks()) {
                losePower();
                return false;
            }
            int newest = flash.findNewestBlock();
            active = flash.countFreePages(newest) > 0 ? newest : -1;
            return true;
        }

        private void readMap() {
            for (int i = 0; i < flash.placeCount; i++) {
                if (flash.kind[i] == MAP && flash.group[i] == latest) {
                    for (int j = 0; j < PART_SIZE; j++) {
                        table.setCommitted(flash.index[i] * PART_SIZE + j, flash.mapped[i * PART_SIZE + j]);
                    }
                }
            }
        }

        /** False if power is lost. */
        private boolean eraseDeadBlocks() {
            countLive();
            for (int i = 0; i < flash.blockCount; i++) {
                if (flash.used[i] > 0 && liveIn[i] == 0 && !flash.erase(i)) {
                    return false;
                }
            }
            return true;
        }
    }
}
