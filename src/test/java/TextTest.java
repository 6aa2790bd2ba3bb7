/** Drawn texts, most of them slightly spoilt: their errors compared with those that the model finds. */
public final class TextTest {
    private static final Checks CHECKS = new Checks();
    private static final String[] PIECES = {"blocks", "pages", "logical", "every", "fill", ";", " ", "\n", "0", "1", "4",
        "5", "9", "50", "51", "64", "65", "000005", "0000005", "999999", "1000000", "a", "z", "A", "\t", "\0", "{", "/",
        ":", "`", "\u00ff", "-1", "+1", "fills", "every3"};

    private final Draw draw;

    private TextTest(int seed) {
        draw = new Draw(seed);
    }

    public static void main(String[] args) {
        for (int seed = 0; seed < 60000; seed++) {
            TextTest test = new TextTest(seed);
            test.compare(test.spoil(test.text()));
        }
        allSizes();
        CHECKS.end("TextTest");
    }

    /** Every pair of a number of blocks and of pages, with numbers of logical pages around the greatest allowed. */
    private static void allSizes() {
        for (int blocks = 3; blocks <= 33; blocks++) {
            for (int pages = 1; pages <= 33; pages++) {
                int most = 0;
                while (most + 2 * ((most + 8) / 8 + 1) + 2 <= (blocks - 2) * pages) {
                    most++;
                }
                for (int logical = Math.max(0, most - 1); logical <= most + 1; logical++) {
                    new TextTest(0).compare("blocks " + blocks + " pages " + pages + " logical " + logical + " every 1;");
                }
            }
        }
    }

    private String gap() {
        return draw.oneIn(5) ? "\n" : draw.oneIn(6) ? "  " : " ";
    }

    private String maybeGap() {
        return draw.oneIn(2) ? gap() : "";
    }

    private int number(int least, int most) {
        return draw.oneIn(25) ? draw.from(0, 70) : draw.oneIn(6) ? (draw.oneIn(2) ? least : most) : draw.from(least, most);
    }

    private String text() {
        StringBuilder text = new StringBuilder(maybeGap());
        text.append("blocks").append(gap()).append(number(4, 32)).append(gap()).append("pages").append(gap());
        text.append(number(2, 32)).append(gap()).append("logical").append(gap());
        text.append(number(1, draw.oneIn(2) ? 64 : 9)).append(gap());
        text.append("every").append(gap()).append(number(1, 50)).append(maybeGap()).append(';').append(maybeGap());
        for (int fills = draw.below(3); fills > 0; fills--) {
            text.append("fill");
            for (int values = draw.from(1, 9); values > 0; values--) {
                text.append(gap()).append(draw.oneIn(9) ? draw.from(999990, 1000005) : draw.below(1000));
            }
            text.append(maybeGap()).append(';').append(maybeGap());
        }
        return text.toString();
    }

    private String spoil(String text) {
        StringBuilder spoilt = new StringBuilder(text);
        for (int times = draw.below(3); times > 0; times--) {
            int at = draw.below(spoilt.length() + 1);
            String piece = PIECES[draw.below(PIECES.length)];
            if (draw.oneIn(3)) {
                spoilt.setLength(at);
            } else if (draw.oneIn(2)) {
                spoilt.insert(at, piece);
            } else {
                spoilt.replace(at, Math.min(spoilt.length(), at + draw.from(1, 3)), draw.oneIn(2) ? "" : piece);
            }
        }
        return spoilt.length() > 590 ? spoilt.substring(0, 590) : spoilt.toString();
    }

    private void compare(String text) {
        ModelText due = new ModelText(text);
        TransactionalFlash x = new TransactionalFlash();
        int length = Checks.feed(x, text);
        String of = " of " + text.replace("\n", "\\n");
        CHECKS.due("format" + of, due.code == 0 ? due.values.size() : Checks.STATE, () -> x.format(length));
        CHECKS.due("errorCode" + of, due.code, x::errorCode);
        CHECKS.due("errorPosition" + of, due.position, x::errorPosition);
        CHECKS.due("blocks" + of, due.code == 0 ? due.head[0] : 0, x::blocks);
        CHECKS.due("pagesPerBlock" + of, due.code == 0 ? due.head[1] : 0, x::pagesPerBlock);
        CHECKS.due("logicalPages" + of, due.code == 0 ? due.head[2] : 0, x::logicalPages);
        for (int i = 0; due.code == 0 && i < due.head[2]; i++) {
            int page = i;
            CHECKS.due("read " + i + of, i < due.values.size() ? due.values.get(i) : -1, () -> x.read(0, page));
        }
    }
}
