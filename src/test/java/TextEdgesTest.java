import java.util.List;

/** The boundaries in section 5, TEXT, and in promises 1 to 5. */
public final class TextEdgesTest extends Edges {
    private static final int SYNTAX = 1;
    private static final int RANGE = 2;
    private static final int LIMIT = 3;
    private static final String HEAD = "blocks 4 pages 5 logical 4 every 3;";

    public static void main(String[] args) {
        anyNumberOfFills();
        ranges();
        roomForTheLogicalPages();
        valuesAreWritten();
        tokens();
        gaps();
        directlyBehind();
        leastPosition();
        syntax();
        endOfTheText();
        range();
        limit();
        beforeTheFirstFormat();
        bytesOfFeed();
        fullBuffer();
        lengthOutOfRange();
        textWithAnError();
        everythingBeginsAnew();
        bufferIsEmptied();
        numberOfValues();
        codeAndPosition();
        firstExceptionListed();
        end("TextEdgesTest");
    }

    private static void good(String text, int values) {
        TransactionalFlash x = new TransactionalFlash();
        int length = Checks.feed(x, text);
        due("format of " + text, values, () -> x.format(length));
        due("errorCode of " + text, 0, x::errorCode);
        due("errorPosition of " + text, -1, x::errorPosition);
    }

    /** The sign ^ stands ahead of the byte at which the error is due; it is no part of the text. */
    private static void bad(int code, String marked) {
        int position = marked.indexOf('^');
        String text = marked.replace("^", "");
        TransactionalFlash x = new TransactionalFlash();
        int length = Checks.feed(x, text);
        due("format of " + text, STATE, () -> x.format(length));
        due("errorCode of " + text, code, x::errorCode);
        due("errorPosition of " + text, position, x::errorPosition);
    }

    private static void anyNumberOfFills() {
        says("where { X } means any number of X");
        good(HEAD, 0);
        good(HEAD + "fill 7;", 1);
        good(HEAD + "fill 1 2 3 4;", 4);
        good(HEAD + "fill 1;fill 2;fill 3;fill 4;", 4);
        good(HEAD + "fill 1 2 3; fill 4;", 4);
        bad(SYNTAX, HEAD + "fill^;");
        bad(SYNTAX, HEAD + "fill 1;fill ^;");
        bad(SYNTAX, HEAD + "fill 1;^;");
        bad(SYNTAX, HEAD + "fill 1 ^fill 2;");
        bad(SYNTAX, HEAD + "fill 1; ^2;");
        bad(SYNTAX, HEAD + "^1;");
        bad(SYNTAX, HEAD + "^;");
    }

    private static void ranges() {
        says("B is 4 to 32, P 2 to 32, L 1 to 64, E 1 to 50, VALUE 0 to 999999.");
        bad(RANGE, "blocks ^0 pages 32 logical 1 every 1;");
        bad(RANGE, "blocks ^3 pages 32 logical 1 every 1;");
        good("blocks 4 pages 32 logical 1 every 1;", 0);
        good("blocks 32 pages 32 logical 1 every 1;", 0);
        bad(RANGE, "blocks ^33 pages 32 logical 1 every 1;");
        bad(RANGE, "blocks ^999999 pages 32 logical 1 every 1;");
        bad(RANGE, "blocks 32 pages ^0 logical 1 every 1;");
        bad(RANGE, "blocks 32 pages ^1 logical 1 every 1;");
        good("blocks 32 pages 2 logical 1 every 1;", 0);
        bad(RANGE, "blocks 32 pages ^33 logical 1 every 1;");
        bad(RANGE, "blocks 32 pages ^999999 logical 1 every 1;");
        bad(RANGE, "blocks 32 pages 32 logical ^0 every 1;");
        good("blocks 32 pages 32 logical 64 every 1;", 0);
        bad(RANGE, "blocks 32 pages 32 logical ^65 every 1;");
        bad(RANGE, "blocks 32 pages 32 logical ^999999 every 1;");
        bad(RANGE, "blocks 32 pages 32 logical 1 every ^0;");
        good("blocks 32 pages 32 logical 1 every 50;", 0);
        bad(RANGE, "blocks 32 pages 32 logical 1 every ^51;");
        bad(RANGE, "blocks 32 pages 32 logical 1 every ^999999;");
        TransactionalFlash x = of(HEAD + "fill 0 999999 000000;");
        due("the value 0", 0, () -> x.read(0, 0));
        due("the value 999999", 999999, () -> x.read(0, 1));
        due("the value 000000", 0, () -> x.read(0, 2));
        bad(SYNTAX, HEAD + "fill ^1000000;");
        bad(SYNTAX, HEAD + "fill ^-1;");
    }

    private static void roomForTheLogicalPages() {
        says("(B - 2) * P must be at least L + 2 * (M + 1) + 1.");
        good("blocks 5 pages 2 logical 1 every 1;", 0);
        bad(RANGE, "blocks 4 pages 2 logical ^1 every 1;");
        bad(RANGE, "blocks 5 pages 2 logical ^2 every 1;");
        good("blocks 4 pages 5 logical 5 every 1;", 0);
        bad(RANGE, "blocks 4 pages 5 logical ^6 every 1;");
        good("blocks 5 pages 5 logical 8 every 1;", 0);
        bad(RANGE, "blocks 5 pages 5 logical ^9 every 1;");
        good("blocks 4 pages 8 logical 9 every 1;", 0);
        bad(RANGE, "blocks 4 pages 8 logical ^10 every 1;");
        good("blocks 5 pages 27 logical 62 every 1;", 0);
        bad(RANGE, "blocks 5 pages 27 logical ^63 every 1;");
        bad(RANGE, "blocks 5 pages 27 logical ^64 every 1;");
        good("blocks 5 pages 28 logical 64 every 1;", 0);
    }

    private static void valuesAreWritten() {
        says("The values are written outside transactions to the logical pages 0, 1, 2 and so on, after everything"
                + " else has been set up; there are at most L of them.");
        TransactionalFlash x = of("blocks 4 pages 5 logical 4 every 3; fill 10 11; fill 12 13;");
        for (int i = 0; i < 4; i++) {
            int page = i;
            due("page " + i, 10 + i, () -> x.read(0, page));
        }
        duePage("the first value", x, 0, 1, 0, 0, 1, 1, 10);
        due("a checkpoint was made behind the third one", 1, x::lastCheckpoint);
        duePage("its map page", x, 3, 3, 0, 1, 4, 4, -2);
        duePage("the fourth value", x, 5, 1, 3, 0, 6, 6, 13);
        due("commits", 1, x::commits);
        due("transactions", 0, x::transactions);
        good(HEAD + "fill 1 2 3 4;", 4);
        bad(LIMIT, HEAD + "fill 1 2 3 4 ^5;");
        good("blocks 5 pages 2 logical 1 every 1;fill 1;", 1);
        bad(LIMIT, "blocks 5 pages 2 logical 1 every 1;fill 1;fill ^2;");
        TransactionalFlash y = of("blocks 4 pages 5 logical 5 every 1; fill 1 2 3 4 5;");
        due("a checkpoint behind each", 5, y::lastCheckpoint);
        due("garbage was collected on the way", 1, () -> Checks.bit(y.erases() > 0));
        due("the first value", 1, () -> y.read(0, 0));
        due("the last value", 5, () -> y.read(0, 4));
    }

    private static void tokens() {
        says("A token is a word (a run of letters a to z), a number (a run of digits), or the sign ; and is as long as"
                + " possible.");
        bad(SYNTAX, "^blocksa 4 pages 5");
        bad(SYNTAX, "^zblocks 4 pages 5");
        bad(SYNTAX, "^blocksblocks 4 pages 5");
        bad(SYNTAX, "^blocksz 4 pages 5");
        bad(SYNTAX, "^block 4 pages 5");
        bad(SYNTAX, "^clocks 4 pages 5");
        bad(SYNTAX, "^blockt 4 pages 5");
        bad(SYNTAX, "blocks 4 ^pagez 5");
        bad(RANGE, "blocks ^40 pages 5");
        bad(RANGE, "blocks ^49 pages 5");
        bad(SYNTAX, "blocks 4^/ pages 5");
        bad(SYNTAX, "blocks 4^: pages 5");
        bad(SYNTAX, "blocks 4 pages^` 5");
        bad(SYNTAX, "blocks 4 pages^{ 5");
        bad(SYNTAX, "blocks 4 ^Pages 5");
        good("blocks 04 pages 000005 logical 4 every 3;", 0);
        bad(SYNTAX, HEAD + "^;;");
    }

    private static void gaps() {
        says("Spaces (byte 32) and line feeds (byte 10) may stand between any two tokens and at both ends.");
        good(" \n blocks\n4\n\npages  5 \n logical\n 4 every 3 \n; \n fill\n1 2\n ;\nfill 3;\n \n", 3);
        good("blocks 4 pages 5 logical 4 every 3;fill 1;fill 2;", 2);
        for (int b = 0; b < 256; b++) {
            boolean letterOrDigit = b >= 'a' && b <= 'z' || b >= '0' && b <= '9';
            if (b == ' ' || b == '\n') {
                good("blocks" + (char) b + "4 pages 5 logical 4 every 3;", 0);
            } else if (!letterOrDigit && b != '^') {
                bad(SYNTAX, "blocks^" + (char) b + "4 pages 5 logical 4 every 3;");
                bad(SYNTAX, HEAD + "^" + (char) b);
            }
        }
    }

    private static void directlyBehind() {
        says("A word or number directly behind a word or number needs at least one of them between.");
        bad(SYNTAX, "blocks^4 pages 5 logical 4 every 3;");
        bad(SYNTAX, "blocks 4^pages 5 logical 4 every 3;");
        bad(SYNTAX, "blocks 4 pages^5 logical 4 every 3;");
        bad(SYNTAX, "blocks 4 pages 5 logical 4^every 3;");
        bad(SYNTAX, HEAD + "fill^1;");
        bad(SYNTAX, HEAD + "fill 1^fill 2;");
        good("blocks\n4 pages 5 logical 4 every 3;fill 1;", 1);
    }

    private static void leastPosition() {
        says("The error with the least position (byte index from 0) is reported, of several at one position the least"
                + " code:");
        bad(SYNTAX, "^X 3 pages 1");
        bad(RANGE, "blocks ^3 pages 1 logical 0 every 0;");
        bad(RANGE, "blocks ^33pages 5");
        bad(RANGE, "blocks ^3X");
        bad(RANGE, "blocks 4 pages ^1");
        bad(SYNTAX, "blocks 4^pages 1");
        bad(SYNTAX, "blocks^99 pages 5");
        bad(SYNTAX, "blocks ^1000000 pages 5");
        bad(SYNTAX, HEAD + "fill 1 2 3 4 ^1000000;");
        bad(LIMIT, HEAD + "fill 1 2 3 4 ^5 1000000;");
        bad(LIMIT, HEAD + "fill 1 2 3 4 ^5X;");
        bad(LIMIT, HEAD + "fill 1 2 3 4 ^5");
        bad(SYNTAX, HEAD + "fill 1 2 3 ^X 4 5;");
        bad(SYNTAX, HEAD + "fill 1 2 3 4;^5;");
    }

    private static void syntax() {
        says("a token that the grammar does not allow there; a word or number directly behind a word or number; a"
                + " number of more than 6 digits; any other byte;");
        String[] tokens = {"blocks", "4", "pages", "5", "logical", "4", "every", "3", ";", "fill", "1", ";"};
        String[] others = {"blocks", "pages", "logical", "every", "fill", ";", "7", "word"};
        StringBuilder ahead = new StringBuilder();
        for (int i = 0; i < tokens.length; i++) {
            for (String other : others) {
                if (!allowedIn(i, tokens[i], other)) {
                    bad(SYNTAX, ahead + "^" + other + " ");
                }
            }
            ahead.append(tokens[i]).append(' ');
        }
        good("blocks 000004 pages 5 logical 4 every 3;", 0);
        bad(SYNTAX, "blocks ^0000004 pages 5 logical 4 every 3;");
        good(HEAD + "fill 000001;", 1);
        bad(SYNTAX, HEAD + "fill ^0000001;");
        bad(SYNTAX, HEAD + "fill ^4294967297;");
        bad(SYNTAX, HEAD + "fill 1^\t;");
    }

    /** Whether this other token may stand in place of the one that the grammar has there. */
    private static boolean allowedIn(int index, String token, String other) {
        boolean bothNumbers = token.charAt(0) <= '9' && other.equals("7");
        boolean endsFill = index == 11 && (other.equals(";") || other.equals("7"));
        return token.equals(other) || bothNumbers || endsFill;
    }

    private static void endOfTheText() {
        says("the end of the text where more is needed (position: the length).");
        String text = "blocks 4 pages 5 logical 4 every 3 ; fill 1 2 ;";
        for (int length = 0; length <= text.length(); length++) {
            if (length == 0 || length == text.length() || text.charAt(length) == ' ' || text.charAt(length - 1) == ' ') {
                String part = text.substring(0, length);
                if (part.trim().endsWith(";")) {
                    good(part, part.length() == text.length() ? 2 : 0);
                } else {
                    bad(SYNTAX, part + "^");
                }
            }
        }
        bad(SYNTAX, " \n^");
        says("Parses the first length bytes of the buffer as a format.");
        TransactionalFlash x = new TransactionalFlash();
        Checks.feed(x, HEAD);
        due("the length is the given one, not that of the buffer", STATE, () -> x.format(6));
        due("errorPosition", 6, x::errorPosition);
        Checks.feed(x, "blocks 44 pages");
        due("a number ends with the length", STATE, () -> x.format(8));
        due("errorCode", SYNTAX, x::errorCode);
        due("errorPosition", 8, x::errorPosition);
        Checks.feed(x, "blocks 4 pagesx");
        due("a word ends with the length", STATE, () -> x.format(14));
        due("errorPosition", 14, x::errorPosition);
        Checks.feed(x, HEAD + "!");
        due("what stands behind the length is not read", 0, () -> x.format(HEAD.length()));
    }

    private static void range() {
        says("a number out of its range; the number L if (B - 2) * P is too small for it.");
        bad(RANGE, "blocks ^3 pages 5 logical 4 every 3;");
        bad(RANGE, "blocks 4 pages ^33 logical 4 every 3;");
        bad(RANGE, "blocks 4 pages 5 logical ^000065 every 3;");
        bad(RANGE, "blocks 4 pages 5 logical ^6 every 3;");
        bad(RANGE, "blocks 4 pages 5 logical ^6 every 0;");
        bad(RANGE, "blocks 4 pages 5 logical 5 every ^51;");
    }

    private static void limit() {
        says("LIMIT: a value, if there are L values already.");
        good("blocks 4 pages 5 logical 2 every 3; fill 1 2;", 2);
        bad(LIMIT, "blocks 4 pages 5 logical 2 every 3; fill 1 2 ^3;");
        bad(LIMIT, "blocks 4 pages 5 logical 2 every 3; fill 1; fill 2; fill ^3 4;");
        good("blocks 4 pages 5 logical 2 every 3; fill 1; fill 2;", 2);
        StringBuilder most = new StringBuilder("blocks 32 pages 32 logical 64 every 50;fill");
        for (int i = 0; i < 64; i++) {
            most.append(" 1");
        }
        good(most + ";", 64);
        bad(LIMIT, most + " ^1;");
    }

    private static void beforeTheFirstFormat() {
        says("Before the first format, there are no blocks, the device is off, and recover() throws an"
                + " IllegalStateException.");
        TransactionalFlash x = new TransactionalFlash();
        for (int round = 0; round < 2; round++) {
            due("blocks", 0, x::blocks);
            due("block 0", NO_SUCH, () -> x.block(0, 0));
            dueOff("without a format", x);
            due("recover", STATE, x::recover);
            due("powerOff", STATE, x::powerOff);
            due("begin", STATE, x::begin);
            due("losses", 0, x::losses);
            Checks.feed(x, "blocks 4");
            due("a format with an error is none", STATE, () -> x.format(8));
        }
    }

    private static void bytesOfFeed() {
        says("Appends 20 bytes to the input buffer: the four bytes of each parameter in order, the most significant"
                + " byte first.");
        for (int b : new int[] {0, 1, 127, 128, 255}) {
            for (int i = 0; i < 20; i++) {
                int position = i;
                StringBuilder text = new StringBuilder("                    ");
                text.setCharAt(position, (char) b);
                TransactionalFlash x = new TransactionalFlash();
                Checks.feed(x, text.toString());
                due("byte " + b + " at " + i, STATE, () -> x.format(20));
                due("byte " + b + " at " + i + ": errorPosition", position, x::errorPosition);
            }
        }
        says("Returns the new length of the buffer.");
        TransactionalFlash x = new TransactionalFlash();
        due("the first 20", 20, () -> x.feed(0, 0, 0, 0, 0));
        due("the next 20", 40, () -> x.feed(MIN, MAX, -1, 1, 0));
    }

    private static void fullBuffer() {
        says("Throws `IllegalStateException` if the length would exceed 600; nothing is appended then");
        TransactionalFlash x = new TransactionalFlash();
        StringBuilder text = new StringBuilder(HEAD);
        while (text.length() < 600) {
            text.append(' ');
        }
        Checks.feed(x, text.substring(0, 560));
        due("up to 580", 580, () -> x.feed(0x20202020, 0x20202020, 0x20202020, 0x20202020, 0x20202020));
        due("up to 600", 600, () -> x.feed(0x20202020, 0x20202020, 0x20202020, 0x20202020, 0x20202020));
        due("over 600", STATE, () -> x.feed(0, 0, 0, 0, 0));
        due("over 600 again", STATE, () -> x.feed(0, 0, 0, 0, 0));
        due("no byte more is there", ARGUMENT, () -> x.format(601));
        due("all 600 stand as they were", 0, () -> x.format(600));
        due("there is room again", 20, () -> x.feed(0, 0, 0, 0, 0));
    }

    private static void lengthOutOfRange() {
        says("number of bytes, 0 to the length of the buffer");
        TransactionalFlash x = new TransactionalFlash();
        due("1 of 0", ARGUMENT, () -> x.format(1));
        due("0 of 0", STATE, () -> x.format(0));
        due("an empty text has an error", 1, x::errorCode);
        due("at its end", 0, x::errorPosition);
        says("Throws `IllegalArgumentException` if length is out of range; errorCode() and errorPosition() do not"
                + " change then");
        x.feed(0x626C6F63, 0x6B73202A, 0x20202020, 0x20202020, 0x20202020);
        due("an error", STATE, () -> x.format(20));
        int length = Checks.feed(x, HEAD);
        List<String> before = snapshot(x);
        for (int wrong : new int[] {-1, 41, 600, MIN, MAX}) {
            due("length " + wrong, ARGUMENT, () -> x.format(wrong));
            due("errorCode after length " + wrong, 1, x::errorCode);
            due("errorPosition after length " + wrong, 7, x::errorPosition);
        }
        dueSame("nothing else", before, snapshot(x));
        due("the buffer stands", 0, () -> x.format(length));
        due("wrong again", ARGUMENT, () -> x.format(1));
        due("errorCode", 0, x::errorCode);
        due("errorPosition", -1, x::errorPosition);
    }

    /** A device that has a bit of everything. */
    private static TransactionalFlash used() {
        TransactionalFlash x = of("blocks 5 pages 5 logical 5 every 4; fill 1 2 3 4 5;");
        x.begin();
        x.begin();
        x.write(1, 0, 10);
        x.openReader();
        x.write(0, 2, 12);
        x.write(0, 2, 13);
        x.powerOff();
        x.recover();
        x.begin();
        x.write(3, 4, 14);
        x.openReader();
        x.openReader();
        x.closeReader(0);
        x.arm(77);
        return x;
    }

    private static void textWithAnError() {
        says("Throws `IllegalStateException` if the text has an error; then only the buffer, errorCode() and"
                + " errorPosition() change");
        TransactionalFlash x = used();
        List<String> before = snapshot(x);
        due("an error at the end", STATE, () -> x.format(Checks.feed(x, "blocks 9 pages 9 logical 9 every 9; fill 8")));
        due("errorCode", 1, x::errorCode);
        due("errorPosition", 42, x::errorPosition);
        dueSame("nothing else", before, snapshot(x));
        due("what is armed stays", 77, () -> x.arm(0));
        due("the value in the shadow stays", 14, () -> x.read(3, 4));
        due("the reader stays", 1, () -> x.readBy(1, 0));
        due("the buffer is emptied", 20, () -> x.feed(0, 0, 0, 0, 0));
    }

    private static void everythingBeginsAnew() {
        says("Without an error, everything begins anew: all pages are free, all erase counts and all other counts are"
                + " 0, there are no transactions and no checkpoints, nothing is armed, and the device is on.");
        String text = "blocks 4 pages 5 logical 4 every 3;";
        TransactionalFlash fresh = of(text);
        List<String> due = snapshot(fresh);
        TransactionalFlash x = used();
        writeTimes(x, 2, 9);
        x.write(0, 3, 1);
        due("commits of before", 1, x::commits);
        due("format of a device that is on", 0, () -> x.format(Checks.feed(x, text)));
        dueSame("from on", due, snapshot(x));
        due("nothing is armed", 0, () -> x.arm(0));
        due("no transaction", NO_SUCH, () -> x.state(1));
        due("no reader", NO_SUCH, () -> x.readBy(1, 0));
        due("the first transaction", 1, x::begin);
        due("the first version", 1, () -> x.write(0, 0, 5));
        due("the first checkpoint", 1, x::checkpoint);
        due("the first reader", 0, x::openReader);
        due("format again", 0, () -> x.format(Checks.feed(x, text)));
        x.begin();
        x.write(1, 0, 5);
        x.commit(1);
        dueValid("a commit page, as there is no end page any more", 1, x, 1);

        TransactionalFlash y = used();
        writeTimes(y, 2, 9);
        y.arm(1);
        due("a loss", STATE, () -> y.write(0, 2, 1));
        y.arm(2);
        due("format of a device that is off", 0, () -> y.format(Checks.feed(y, text)));
        dueSame("from off", due, snapshot(y));
        due("nothing is armed", 0, () -> y.arm(0));
        due("the first write", 1, () -> y.write(0, 0, 5));
        due("the second write", 2, () -> y.write(0, 0, 5));
    }

    private static void bufferIsEmptied() {
        says("The buffer is emptied unless an IllegalArgumentException is thrown.");
        TransactionalFlash x = new TransactionalFlash();
        int length = Checks.feed(x, HEAD);
        due("a length out of range", ARGUMENT, () -> x.format(-1));
        due("the buffer stands", 60, () -> x.feed(0, 0, 0, 0, 0));
        due("a good format", 0, () -> x.format(length));
        due("the whole buffer is empty", ARGUMENT, () -> x.format(1));
        due("the whole buffer is empty", 20, () -> x.feed(0, 0, 0, 0, 0));
        due("a format with an error", STATE, () -> x.format(1));
        due("the whole buffer is empty", ARGUMENT, () -> x.format(1));
        due("a format of no byte, with an error", STATE, () -> x.format(0));
        due("the whole buffer is empty", 20, () -> x.feed(0, 0, 0, 0, 0));
    }

    private static void numberOfValues() {
        says("Returns the number of values that were written.");
        good(HEAD, 0);
        good(HEAD + "fill 0;", 1);
        good(HEAD + "fill 1 2;fill 3 4;", 4);
        TransactionalFlash x = of(HEAD + "fill 1 2 3 4;");
        due("it is not kept for the next format", 0, () -> x.format(Checks.feed(x, HEAD)));
        due("nor are the values", -1, () -> x.read(0, 0));
    }

    private static void codeAndPosition() {
        TransactionalFlash x = new TransactionalFlash();
        says("0 if it found none or there was no such call.");
        due("no call", 0, x::errorCode);
        says("Returns the position of that error; -1 if there is none.");
        due("no call", -1, x::errorPosition);
        due("a length out of range", ARGUMENT, () -> x.format(1));
        due("no call with a valid length", -1, x::errorPosition);
        says("Returns the code of the error found by the latest format() with a valid length;");
        due("no call with a valid length", 0, x::errorCode);
        due("RANGE", STATE, () -> x.format(Checks.feed(x, "blocks 3")));
        due("RANGE", 2, x::errorCode);
        due("LIMIT", STATE, () -> x.format(Checks.feed(x, HEAD + "fill 1 2 3 4 5;")));
        due("LIMIT", 3, x::errorCode);
        due("at", 48, x::errorPosition);
        due("a length out of range", ARGUMENT, () -> x.format(-1));
        due("the latest valid one", 3, x::errorCode);
        due("the latest valid one", 48, x::errorPosition);
        due("SYNTAX", STATE, () -> x.format(0));
        due("SYNTAX", 1, x::errorCode);
        due("at the first byte", 0, x::errorPosition);
        due("none", 0, () -> x.format(Checks.feed(x, HEAD)));
        due("none", 0, x::errorCode);
        due("none", -1, x::errorPosition);
    }

    private static void firstExceptionListed() {
        says("If several exceptions apply to a call, the one that is listed first in its description is thrown.");
        TransactionalFlash x = new TransactionalFlash();
        Checks.feed(x, "an error");
        due("format: length ahead of the text", ARGUMENT, () -> x.format(21));
        TransactionalFlash y = of(TINY);
        y.powerOff();
        due("write: transaction ahead of value and power", NO_SUCH, () -> y.write(1, 0, -2));
        due("write: page ahead of value and power", NO_SUCH, () -> y.write(0, 1, -2));
        due("write: value ahead of power", ARGUMENT, () -> y.write(0, 0, -2));
        due("read: transaction ahead of power", NO_SUCH, () -> y.read(1, 0));
        due("read: page ahead of power", NO_SUCH, () -> y.read(0, 1));
        due("commit: transaction ahead of power", NO_SUCH, () -> y.commit(1));
        due("abort: transaction ahead of power", NO_SUCH, () -> y.abort(1));
        due("block: block ahead of what", NO_SUCH, () -> y.block(5, 4));
        due("flashPage: place ahead of what", NO_SUCH, () -> y.flashPage(10, 6));
    }
}
