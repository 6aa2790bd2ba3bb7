/** Wild arguments in every state: a call throws nothing but what the document lists for it, and always ends. */
public final class WildTest {
    private static final Checks CHECKS = new Checks();
    private static final int[] WILD = {Integer.MIN_VALUE, Integer.MIN_VALUE + 1, -1000, -2, -1, 0, 1, 2, 3, 4, 5, 6, 7,
        8, 19, 20, 31, 32, 33, 63, 64, 65, 255, 256, 599, 600, 601, 1000, 1001, 1023, 1024, 8191, 8192, 999999, 1000000,
        Integer.MAX_VALUE - 1, Integer.MAX_VALUE};
    private static final String[] TEXTS = {"blocks 4 pages 5 logical 5 every 1;", "blocks 5 pages 2 logical 1 every 50;",
        "blocks 32 pages 32 logical 64 every 50;fill 1 2 3;", "blocks 6 pages 6 logical 9 every 4; fill 5 5 5; fill 1;"};

    private static final int NO_SUCH = 1;
    private static final int ARGUMENT = 2;
    private static final int STATE = 4;

    private final Draw draw;
    private final TransactionalFlash x = new TransactionalFlash();

    private WildTest(int seed) {
        draw = new Draw(seed);
    }

    public static void main(String[] args) {
        for (int seed = 0; seed < 300; seed++) {
            WildTest run = new WildTest(seed);
            for (int i = 0; i < 700; i++) {
                run.step();
            }
        }
        manyTransactions();
        CHECKS.end("WildTest");
    }

    /** Far more calls than the document speaks of: the tables must not run over. */
    private static void manyTransactions() {
        TransactionalFlash x = Checks.formatted(TEXTS[0]);
        for (int i = 1; i <= 1000; i++) {
            int number = i;
            CHECKS.due("begin " + i, number, x::begin);
            CHECKS.due("commit " + i, 0, () -> x.commit(number));
        }
        CHECKS.due("begin 1001", Checks.STATE, x::begin);
        CHECKS.due("transactions", 1000, x::transactions);
        CHECKS.due("state 1000", 2, () -> x.state(1000));
        CHECKS.due("state 1001", Checks.NO_SUCH, () -> x.state(1001));
    }

    private int wild() {
        return draw.oneIn(20) ? draw.word() : WILD[draw.below(WILD.length)];
    }

    private int near() {
        return draw.oneIn(3) ? wild() : draw.below(6);
    }

    private void step() {
        if (draw.oneIn(3)) {
            change();
        } else {
            ask();
        }
    }

    private void may(String call, int allowed, Checks.Call answer) {
        long outcome = Checks.outcome(answer);
        boolean right = outcome == Checks.NO_SUCH ? (allowed & NO_SUCH) != 0
                : outcome == Checks.ARGUMENT ? (allowed & ARGUMENT) != 0
                : outcome == Checks.STATE ? (allowed & STATE) != 0 : outcome != Checks.OTHER;
        CHECKS.same(call + " answered " + Checks.told(outcome) + ", which it may (1)", 1, Checks.bit(right));
    }

    private void change() {
        int a = near();
        int b = near();
        int c = wild();
        switch (draw.below(18)) {
            case 0:
                may("feed", STATE, () -> x.feed(draw.word(), a, b, c, wild()));
                break;
            case 1:
                may("format", ARGUMENT | STATE, () -> x.format(c));
                break;
            case 2:
                String text = TEXTS[draw.below(TEXTS.length)];
                may("feed and format", ARGUMENT | STATE, () -> x.format(Checks.feed(x, text)));
                may("format", ARGUMENT | STATE, () -> x.format(0));
                may("feed and format", ARGUMENT | STATE, () -> x.format(Checks.feed(x, text)));
                break;
            case 3:
                may("begin", STATE, x::begin);
                break;
            case 4: case 5: case 6: case 7: case 8:
                may("write", NO_SUCH | ARGUMENT | STATE, () -> x.write(a, b, c));
                break;
            case 9:
                may("commit", NO_SUCH | STATE, () -> x.commit(a));
                break;
            case 10:
                may("abort", NO_SUCH | STATE, () -> x.abort(a));
                break;
            case 11:
                may("openReader", STATE, x::openReader);
                break;
            case 12:
                may("closeReader", NO_SUCH, () -> x.closeReader(a));
                break;
            case 13:
                may("checkpoint", STATE, x::checkpoint);
                break;
            case 14:
                may("arm", ARGUMENT, () -> x.arm(draw.oneIn(2) ? c : draw.below(12)));
                break;
            case 15:
                may("powerOff", STATE, x::powerOff);
                break;
            default:
                may("recover", STATE, x::recover);
                break;
        }
    }

    private void ask() {
        int a = near();
        int b = near();
        may("read", NO_SUCH | STATE, () -> x.read(a, b));
        may("readBy", NO_SUCH, () -> x.readBy(a, b));
        may("version", NO_SUCH, () -> x.version(a));
        may("place", NO_SUCH, () -> x.place(a));
        may("lockedBy", NO_SUCH, () -> x.lockedBy(a));
        may("state", NO_SUCH, () -> x.state(a));
        may("locks", NO_SUCH, () -> x.locks(a));
        may("block", NO_SUCH | ARGUMENT, () -> x.block(a, b));
        may("flashPage", NO_SUCH | ARGUMENT, () -> x.flashPage(a, b));
        may("isValid", NO_SUCH, () -> Checks.bit(x.isValid(a)));
        may("isOn", 0, () -> Checks.bit(x.isOn()));
        may("errorCode", 0, x::errorCode);
        may("errorPosition", 0, x::errorPosition);
        may("logicalPages", 0, x::logicalPages);
        may("blocks", 0, x::blocks);
        may("pagesPerBlock", 0, x::pagesPerBlock);
        may("transactions", 0, x::transactions);
        may("readers", 0, x::readers);
        may("activeBlock", 0, x::activeBlock);
        may("freeBlocks", 0, x::freeBlocks);
        may("validPages", 0, x::validPages);
        may("programs", 0, x::programs);
        may("erases", 0, x::erases);
        may("copies", 0, x::copies);
        may("writes", 0, x::writes);
        may("wearGap", 0, x::wearGap);
        may("lastCheckpoint", 0, x::lastCheckpoint);
        may("commits", 0, x::commits);
        may("losses", 0, x::losses);
        may("victim", 0, x::victim);
    }
}
