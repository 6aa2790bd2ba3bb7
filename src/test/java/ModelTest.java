/** Long drawn runs of calls, each answer and then the whole state compared with the model's. */
public final class ModelTest {
    private static final Checks CHECKS = new Checks();

    private final Draw draw;
    private final String run;
    private final TransactionalFlash flash = new TransactionalFlash();
    private final Model model = new Model();
    // Every other run has a flash that is almost full, and few calls but those that fill it and end its power.
    private final boolean tight;

    private ModelTest(int seed) {
        draw = new Draw(seed);
        run = "seed " + seed;
        tight = seed % 2 == 1;
    }

    public static void main(String[] args) {
        int runs = args.length > 0 ? Integer.parseInt(args[0]) : 600;
        for (int seed = 0; seed < runs && CHECKS.wrongSoFar() == 0; seed++) {
            new ModelTest(seed).runCalls();
        }
        CHECKS.end("ModelTest");
    }

    private void runCalls() {
        compareState("new");
        if (draw.oneIn(3)) {
            for (int i = 0; i < 5; i++) {
                step(i);
            }
        }
        format(goodText());
        int calls = draw.from(20, 160);
        for (int i = 0; i < calls && CHECKS.wrongSoFar() == 0; i++) {
            step(i);
        }
    }

    private void same(String call, long want, long got) {
        CHECKS.same(run + ": " + call, want, got);
    }

    // ---- texts

    private String tightText() {
        for (int i = 0; i < 1000; i++) {
            int blocks = draw.from(4, 6);
            int pages = draw.from(3, 8);
            int logical = draw.from(1, 40);
            int spare = (blocks - 2) * pages - logical - 2 * ((logical + 7) / 8 + 1) - 1;
            if (spare >= 0 && spare <= 3) {
                return text(blocks, pages, logical, draw.from(1, 50));
            }
        }
        return text(4, 5, 5, 50);
    }

    private String goodText() {
        if (tight) {
            return tightText();
        }
        for (int i = 0; i < 1000; i++) {
            boolean large = draw.oneIn(12);
            int blocks = draw.from(4, large ? 32 : 7);
            int pages = draw.from(2, large ? 32 : 9);
            int logical = draw.from(1, large ? 64 : 20);
            int parts = (logical + 7) / 8;
            if ((blocks - 2) * pages >= logical + 2 * (parts + 1) + 1) {
                return text(blocks, pages, logical, draw.oneIn(2) ? draw.from(1, 6) : draw.from(1, 50));
            }
        }
        return text(4, 5, 4, 3);
    }

    private String text(int blocks, int pages, int logical, int every) {
        StringBuilder text = new StringBuilder();
        text.append("blocks ").append(blocks).append(" pages ").append(pages).append("\nlogical ");
        text.append(logical).append(" every ").append(every).append(';');
        int left = draw.from(0, logical);
        while (left > 0) {
            int now = draw.from(1, left);
            text.append(" fill");
            for (int i = 0; i < now; i++) {
                text.append(draw.oneIn(4) ? "\n" : " ").append(draw.from(0, 999));
            }
            text.append(" ;");
            left -= now;
        }
        return text.toString();
    }

    private void format(String text) {
        String cut = text.length() > 600 ? text.substring(0, 600) : text;
        for (int at = 0; at < cut.length(); at += 20) {
            feed(cut, at);
        }
        int length = cut.length();
        same("format(" + cut + ")", Checks.outcome(() -> model.format(length)),
                Checks.outcome(() -> flash.format(length)));
        compareState("format");
    }

    private void feed(String text, int at) {
        int[] w = new int[5];
        for (int i = 0; i < 5; i++) {
            w[i] = Checks.word(text, at + 4 * i);
        }
        same("feed", Checks.outcome(() -> model.feed(w)),
                Checks.outcome(() -> flash.feed(w[0], w[1], w[2], w[3], w[4])));
    }

    // ---- calls

    private void step(int number) {
        int transactions = model.transactions();
        int t = draw.oneIn(3) ? 0 : Math.max(0, transactions - draw.from(-1, 7));
        int page = draw.oneIn(30) ? draw.from(-2, 70) : draw.below(Math.max(1, model.logicalPages()));
        if (draw.oneIn(2) && page > 3) {
            page = page % 4;
        }
        String call = call(tight ? tightChoice() : draw.below(100), t, page);
        compareState("call " + number + ", " + call);
    }

    private int tightChoice() {
        if (!model.isOn()) {
            return draw.oneIn(8) ? 80 : 90;
        }
        return draw.oneIn(12) ? draw.below(99) : draw.oneIn(5) ? draw.from(38, 60) : draw.oneIn(6) ? 80 : 0;
    }

    private String call(int choice, int t, int page) {
        if (choice < 38) {
            int value = draw.oneIn(40) ? draw.from(-3, 1000002) : draw.oneIn(6) ? -1 : draw.below(1000000);
            return both("write(" + t + ", " + page + ", " + value + ")", () -> model.write(t, page, value),
                    () -> flash.write(t, page, value));
        }
        if (choice < 50) {
            return both("begin()", model::begin, flash::begin);
        }
        if (choice < 62) {
            return both("commit(" + t + ")", () -> model.commit(t), () -> flash.commit(t));
        }
        if (choice < 66) {
            return both("abort(" + t + ")", () -> model.abort(t), () -> flash.abort(t));
        }
        if (choice < 71) {
            return both("openReader()", model::openReader, flash::openReader);
        }
        if (choice < 75) {
            int reader = draw.from(-1, 4);
            return both("closeReader(" + reader + ")", () -> model.closeReader(reader),
                    () -> flash.closeReader(reader));
        }
        if (choice < 79) {
            return both("checkpoint()", model::checkpoint, flash::checkpoint);
        }
        if (choice < 85) {
            int n = draw.oneIn(10) ? draw.from(-2, 1002) : draw.from(0, 14);
            return both("arm(" + n + ")", () -> model.arm(n), () -> flash.arm(n));
        }
        if (choice < 87) {
            return both("powerOff()", model::powerOff, flash::powerOff);
        }
        if (choice < 99 || draw.oneIn(2)) {
            return both("recover()", model::recover, flash::recover);
        }
        format(draw.oneIn(2) ? goodText() : goodText().replace(";", ""));
        return "format";
    }

    private String both(String call, Checks.Call want, Checks.Call got) {
        same(call, Checks.outcome(want), Checks.outcome(got));
        return call;
    }

    // ---- questions

    private void compareState(String after) {
        String head = after + ", then ";
        same(head + "errorCode", model.errorCode(), flash.errorCode());
        same(head + "errorPosition", model.errorPosition(), flash.errorPosition());
        same(head + "isOn", Checks.bit(model.isOn()), Checks.bit(flash.isOn()));
        same(head + "logicalPages", model.logicalPages(), flash.logicalPages());
        same(head + "blocks", model.blocks(), flash.blocks());
        same(head + "pagesPerBlock", model.pagesPerBlock(), flash.pagesPerBlock());
        same(head + "transactions", model.transactions(), flash.transactions());
        same(head + "readers", model.readers(), flash.readers());
        same(head + "activeBlock", model.activeBlock(), flash.activeBlock());
        same(head + "freeBlocks", model.freeBlocks(), flash.freeBlocks());
        same(head + "validPages", model.validPages(), flash.validPages());
        same(head + "programs", model.programs(), flash.programs());
        same(head + "erases", model.erases(), flash.erases());
        same(head + "copies", model.copies(), flash.copies());
        same(head + "writes", model.writes(), flash.writes());
        same(head + "wearGap", model.wearGap(), flash.wearGap());
        same(head + "lastCheckpoint", model.lastCheckpoint(), flash.lastCheckpoint());
        same(head + "commits", model.commits(), flash.commits());
        same(head + "losses", model.losses(), flash.losses());
        same(head + "victim", model.victim(), flash.victim());
        comparePages(head);
        compareFlash(head);
    }

    private void comparePages(String head) {
        for (int i = -1; i <= model.logicalPages(); i++) {
            int page = i;
            both(head + "version " + i, () -> model.version(page), () -> flash.version(page));
            both(head + "place " + i, () -> model.place(page), () -> flash.place(page));
            both(head + "lockedBy " + i, () -> model.lockedBy(page), () -> flash.lockedBy(page));
            both(head + "read " + i, () -> model.read(0, page), () -> flash.read(0, page));
            for (int r = -1; r <= 4; r++) {
                int reader = r;
                both(head + "readBy " + r, () -> model.readBy(reader, page), () -> flash.readBy(reader, page));
            }
        }
        for (int i = -1; i <= model.transactions() + 1; i++) {
            int number = i;
            both(head + "state " + i, () -> model.state(number), () -> flash.state(number));
            both(head + "locks " + i, () -> model.locks(number), () -> flash.locks(number));
            both(head + "read 0 in " + i, () -> model.read(number, 0), () -> flash.read(number, 0));
            both(head + "read 1 in " + i, () -> model.read(number, 1), () -> flash.read(number, 1));
        }
    }

    private void compareFlash(String head) {
        for (int i = -1; i <= model.blocks(); i++) {
            for (int w = -1; w <= 4; w++) {
                int block = i;
                int what = w;
                both(head + "block " + i + " " + w, () -> model.block(block, what), () -> flash.block(block, what));
            }
        }
        for (int i = -1; i <= model.blocks() * model.pagesPerBlock(); i++) {
            int place = i;
            both(head + "isValid " + i, () -> Checks.bit(model.isValid(place)),
                    () -> Checks.bit(flash.isValid(place)));
            for (int w = -1; w <= 6; w++) {
                int what = w;
                both(head + "flashPage " + i + " " + w, () -> model.flashPage(place, what),
                        () -> flash.flashPage(place, what));
            }
        }
    }
}
