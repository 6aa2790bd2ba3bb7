import java.io.IOException;
import java.nio.file.Files;
import java.nio.file.Path;
import java.util.ArrayList;
import java.util.List;

/** What the edge tests share: each names the sentence of the document that it tests, and tests its boundaries. */
abstract class Edges {
    static final long NO_SUCH = Checks.NO_SUCH;
    static final long ARGUMENT = Checks.ARGUMENT;
    static final long STATE = Checks.STATE;
    static final int MIN = Integer.MIN_VALUE;
    static final int MAX = Integer.MAX_VALUE;

    /** One map part and room for 10 valid pages, 5 of them the values. */
    static final String FULL = "blocks 4 pages 5 logical 5 every 50; fill 1 2 3 4 5;";
    /** The same without a value. */
    static final String BARE = "blocks 4 pages 5 logical 5 every 50;";
    /** The smallest flash: garbage is collected at the seventh page. */
    static final String TINY = "blocks 5 pages 2 logical 1 every 50;";
    /** Two map parts, the second for one logical page, and room for 16 valid pages. */
    static final String PARTS = "blocks 4 pages 8 logical 9 every 50;";
    /** The greatest flash. */
    static final String WIDE = "blocks 32 pages 32 logical 64 every 50;";

    private static final Path DOCUMENT = Path.of("../shared/DOC.md");
    private static final Checks CHECKS = new Checks();
    private static final String WORDS = readDocument();

    private static String sentence = "";

    private static String readDocument() {
        try {
            return oneLine(Files.readString(DOCUMENT));
        } catch (IOException unread) {
            System.out.println("the document can't be read, so that the sentences are not looked up in it");
            return "";
        }
    }

    private static String oneLine(String text) {
        return text.replaceAll("\\s+", " ");
    }

    /** Names the sentence that is tested from here on; it has to stand in the document. */
    static void says(String words) {
        sentence = words;
        CHECKS.same("the document says: " + words, 1, Checks.bit(WORDS.isEmpty() || WORDS.contains(oneLine(words))));
    }

    static void due(String what, long want, Checks.Call call) {
        CHECKS.due("'" + sentence + "' " + what, want, call);
    }

    static void dueOn(String what, TransactionalFlash x) {
        due(what + ": isOn", 1, () -> Checks.bit(x.isOn()));
    }

    static void dueOff(String what, TransactionalFlash x) {
        due(what + ": isOn", 0, () -> Checks.bit(x.isOn()));
    }

    static void dueValid(String what, int want, TransactionalFlash x, int place) {
        due(what + ": isValid(" + place + ")", want, () -> Checks.bit(x.isValid(place)));
    }

    /** The kind, the index, the group, the version, the sequence number and the value of a page, in this order. */
    static void duePage(String what, TransactionalFlash x, int place, int... want) {
        for (int i = 0; i < want.length; i++) {
            int asked = i;
            due(what + ": flashPage(" + place + ", " + i + ")", want[i], () -> x.flashPage(place, asked));
        }
    }

    static TransactionalFlash of(String text) {
        return Checks.formatted(text);
    }

    /** Writes outside transactions, the same logical page so many times. */
    static void writeTimes(TransactionalFlash x, int page, int times) {
        for (int i = 0; i < times; i++) {
            x.write(0, page, 100 + i);
        }
    }

    /** Power was lost at the second copy when block 0 was collected: its page 2 stands in two blocks. */
    static TransactionalFlash interrupted() {
        TransactionalFlash x = of(FULL);
        x.checkpoint();
        x.write(0, 0, 10);
        x.write(0, 1, 11);
        x.write(0, 1, 12);
        x.arm(2);
        due("a loss at the second copy", STATE, () -> x.write(0, 0, 13));
        due("recover", 5, x::recover);
        return x;
    }

    /** The answers of all questions but errorCode and errorPosition; some 200 calls for a flash of 20 pages. */
    static List<String> snapshot(TransactionalFlash x) {
        List<String> lines = new ArrayList<>();
        int transactions = x.transactions();
        int logicalPages = x.logicalPages();
        int blocks = x.blocks();
        int places = blocks * x.pagesPerBlock();
        lines.add("isOn " + x.isOn() + ", readers " + x.readers());
        lines.add("sizes " + logicalPages + " " + blocks + " " + places);
        lines.add("activeBlock " + x.activeBlock() + ", freeBlocks " + x.freeBlocks());
        lines.add("validPages " + x.validPages() + ", victim " + x.victim());
        lines.add("programs " + x.programs() + ", erases " + x.erases() + ", copies " + x.copies());
        lines.add("writes " + x.writes() + ", wearGap " + x.wearGap() + ", losses " + x.losses());
        lines.add("lastCheckpoint " + x.lastCheckpoint() + ", commits " + x.commits());
        for (int i = 1; i <= transactions; i++) {
            lines.add("transaction " + i + " " + x.state(i) + " " + x.locks(i));
        }
        for (int i = 0; i < logicalPages; i++) {
            int page = i;
            lines.add("page " + i + " " + x.version(i) + " " + x.place(i) + " " + x.lockedBy(i) + " "
                    + Checks.outcome(() -> x.read(0, page)));
        }
        for (int i = 0; i < blocks; i++) {
            lines.add("block " + i + " " + x.block(i, 0) + " " + x.block(i, 1) + " " + x.block(i, 2) + " "
                    + x.block(i, 3));
        }
        for (int i = 0; i < places; i++) {
            lines.add("place " + i + " " + x.flashPage(i, 0) + " " + x.flashPage(i, 1) + " " + x.flashPage(i, 2) + " "
                    + x.flashPage(i, 3) + " " + x.flashPage(i, 4) + " " + x.flashPage(i, 5) + " " + x.isValid(i));
        }
        return lines;
    }

    static void dueSame(String what, List<String> want, List<String> got) {
        CHECKS.same("'" + sentence + "' " + what + ": lines", want.size(), got.size());
        for (int i = 0; i < Math.min(want.size(), got.size()); i++) {
            CHECKS.same("'" + sentence + "' " + what + ": '" + got.get(i) + "' is '" + want.get(i) + "'", 1,
                    Checks.bit(want.get(i).equals(got.get(i))));
        }
    }

    static void end(String test) {
        CHECKS.end(test);
    }
}
