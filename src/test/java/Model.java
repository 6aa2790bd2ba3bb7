import java.util.ArrayList;
import java.util.Arrays;
import java.util.List;
import java.util.NoSuchElementException;
import java.util.TreeMap;

/** The document read word for word, slow and plain: what the program's answers are compared with. */
final class Model {
    static final class PowerLost extends Exception {
        private static final long serialVersionUID = 1L;
    }

    /** A page that is programmed (kinds 1 to 4) or torn (kind 5); a free page is null. */
    static final class Sheet {
        int kind;
        int index = -1;
        int group = -1;
        int version = -1;
        int sequence = -1;
        int value = -2;
        int[] held;
    }

    static final class Transaction {
        int state = 1;
        TreeMap<Integer, Integer> shadow = new TreeMap<>();
    }

    private final List<Integer> buffer = new ArrayList<>();
    private int errorCode = 0;
    private int errorPosition = -1;

    private boolean formatted = false;
    private int b;
    private int p;
    private int l;
    private int m;
    private int e;
    private Sheet[][] flash = new Sheet[0][0];
    private int[] wear = new int[0];
    private int[] committed = new int[0];
    private final List<Transaction> transactions = new ArrayList<>();
    private int[][] readers = new int[4][];
    private boolean on = false;
    private int active = -1;
    private int sequence;
    private int checkpoints;
    private int latest;
    private int endVersion;
    private int making;
    private int commits;
    private int armed;
    private int programs;
    private int erases;
    private int copies;
    private int writes;
    private int losses;

    // ---- input

    int feed(int... words) {
        if (buffer.size() + 20 > 600) {
            throw new IllegalStateException();
        }
        for (int word : words) {
            buffer.add(word >> 24 & 255);
            buffer.add(word >> 16 & 255);
            buffer.add(word >> 8 & 255);
            buffer.add(word & 255);
        }
        return buffer.size();
    }

    int format(int length) {
        if (length < 0 || length > buffer.size()) {
            throw new IllegalArgumentException();
        }
        StringBuilder text = new StringBuilder();
        for (int byteValue : buffer.subList(0, length)) {
            text.append((char) byteValue);
        }
        buffer.clear();
        ModelText parsed = new ModelText(text.toString());
        errorCode = parsed.code;
        errorPosition = parsed.position;
        if (parsed.code != 0) {
            throw new IllegalStateException();
        }
        setUp(parsed.head);
        for (int i = 0; i < parsed.values.size(); i++) {
            write(0, i, parsed.values.get(i));
        }
        return parsed.values.size();
    }

    private void setUp(int[] head) {
        formatted = true;
        b = head[0];
        p = head[1];
        l = head[2];
        e = head[3];
        m = (int) Math.ceil(l / 8.0);
        flash = new Sheet[b][p];
        wear = new int[b];
        committed = new int[l];
        transactions.clear();
        readers = new int[4][];
        on = true;
        active = -1;
        sequence = 0;
        checkpoints = 0;
        latest = 0;
        endVersion = 0;
        making = 0;
        commits = 0;
        armed = 0;
        programs = 0;
        erases = 0;
        copies = 0;
        writes = 0;
        losses = 0;
    }

    int errorCode() {
        return errorCode;
    }

    int errorPosition() {
        return errorPosition;
    }

    // ---- what stands on the flash

    private List<Sheet> programmed() {
        List<Sheet> all = new ArrayList<>();
        for (Sheet[] block : flash) {
            for (Sheet sheet : block) {
                if (sheet != null && sheet.kind != 5) {
                    all.add(sheet);
                }
            }
        }
        return all;
    }

    private boolean valid(Sheet s) {
        if (!on || s == null || s.kind == 5) {
            return false;
        }
        for (Sheet o : programmed()) {
            if (o.kind == s.kind && o.group == s.group && o.index == s.index && o.version == s.version
                    && o.sequence > s.sequence) {
                return false;
            }
        }
        if (s.kind == 1) {
            boolean wanted = committed[s.index] == s.version;
            for (Transaction t : transactions) {
                wanted |= t.state == 1 && t.shadow.getOrDefault(s.index, 0) == s.version;
            }
            for (int[] reader : readers) {
                wanted |= reader != null && reader[s.index] == s.version;
            }
            return wanted;
        }
        if (s.kind == 2) {
            return s.version > endVersion;
        }
        if (s.kind == 3) {
            return s.group == latest || s.group == making;
        }
        return s.group == latest;
    }

    private int valid(int block) {
        int count = 0;
        for (Sheet sheet : flash[block]) {
            count += valid(sheet) ? 1 : 0;
        }
        return count;
    }

    private int notFree(int block) {
        int count = 0;
        for (Sheet sheet : flash[block]) {
            count += sheet != null ? 1 : 0;
        }
        return count;
    }

    private List<Integer> free(int activeBlock) {
        List<Integer> all = new ArrayList<>();
        for (int i = 0; i < b; i++) {
            if (i != activeBlock && notFree(i) == 0) {
                all.add(i);
            }
        }
        return all;
    }

    private int stepOne() {
        List<Integer> all = free(active);
        all.sort((x, y) -> wear[x] != wear[y] ? wear[x] - wear[y] : x - y);
        return all.isEmpty() ? -1 : all.get(0);
    }

    private int stepTwo(int activeBlock) {
        if (free(activeBlock).size() >= 2) {
            return -1;
        }
        List<Integer> all = new ArrayList<>();
        for (int i = 0; i < b; i++) {
            if (i != activeBlock && notFree(i) > 0 && valid(i) < p - notFree(activeBlock)) {
                all.add(i);
            }
        }
        int[] counts = new int[b];
        for (int i : all) {
            counts[i] = valid(i);
        }
        all.sort((x, y) -> counts[x] != counts[y] ? counts[x] - counts[y]
                : wear[x] != wear[y] ? wear[x] - wear[y] : x - y);
        return all.isEmpty() ? -1 : all.get(0);
    }

    // ---- flash operations

    private void lose() {
        on = false;
        losses++;
        committed = new int[l];
        for (Transaction t : transactions) {
            t.shadow.clear();
        }
        readers = new int[4][];
        active = -1;
        latest = 0;
        endVersion = 0;
        making = 0;
        commits = 0;
    }

    private boolean strikes() {
        if (armed > 0) {
            armed--;
            return armed == 0;
        }
        return false;
    }

    private void put(Sheet sheet) throws PowerLost {
        int place = notFree(active);
        if (strikes()) {
            Sheet torn = new Sheet();
            torn.kind = 5;
            flash[active][place] = torn;
            lose();
            throw new PowerLost();
        }
        sequence++;
        programs++;
        sheet.sequence = sequence;
        flash[active][place] = sheet;
    }

    private void erase(int block) throws PowerLost {
        boolean struck = strikes();
        for (int i = 0; i < p; i++) {
            flash[block][i] = null;
            if (struck) {
                flash[block][i] = new Sheet();
                flash[block][i].kind = 5;
            }
        }
        if (struck) {
            lose();
            throw new PowerLost();
        }
        wear[block]++;
        erases++;
    }

    private Sheet program(int kind, int index, int group, int value, int[] held) throws PowerLost {
        if (active == -1 || notFree(active) == p) {
            int fresh = stepOne();
            if (fresh == -1) {
                lose();
                throw new PowerLost();
            }
            active = fresh;
            for (int block = stepTwo(active); block != -1; block = stepTwo(active)) {
                collect(block);
            }
        }
        Sheet sheet = new Sheet();
        sheet.kind = kind;
        sheet.index = index;
        sheet.group = group;
        sheet.value = value;
        sheet.held = held;
        put(sheet);
        sheet.version = sheet.sequence;
        return sheet;
    }

    private void collect(int block) throws PowerLost {
        for (int i = 0; i < p; i++) {
            Sheet s = flash[block][i];
            if (valid(s)) {
                Sheet copy = new Sheet();
                copy.kind = s.kind;
                copy.index = s.index;
                copy.group = s.group;
                copy.value = s.value;
                copy.held = s.held;
                copy.version = s.version;
                put(copy);
                copies++;
            }
        }
        erase(block);
    }

    private void checkRoom(int n) {
        if (validPages() + n > (b - 2) * p) {
            throw new IllegalStateException();
        }
    }

    private int nOfCommit() {
        return commits + 1 >= e ? m + 2 : 1;
    }

    private int makeCheckpoint() throws PowerLost {
        checkpoints++;
        making = checkpoints;
        for (int part = 0; part < m; part++) {
            program(3, part, making, -2, Arrays.copyOfRange(committed, 8 * part, Math.min(l, 8 * part + 8)));
        }
        Sheet end = program(4, 0, making, -2, null);
        latest = making;
        endVersion = end.version;
        making = 0;
        commits = 0;
        return latest;
    }

    // ---- transactions and readers

    private Transaction transaction(int number) {
        if (number < 1 || number > transactions.size()) {
            throw new NoSuchElementException();
        }
        return transactions.get(number - 1);
    }

    private void checkPage(int page) {
        if (page < 0 || page >= l) {
            throw new NoSuchElementException();
        }
    }

    private int openTransactions() {
        int count = 0;
        for (Transaction t : transactions) {
            count += t.state == 1 ? 1 : 0;
        }
        return count;
    }

    int begin() {
        if (!on || openTransactions() == 6 || transactions.size() == 1000) {
            throw new IllegalStateException();
        }
        transactions.add(new Transaction());
        return transactions.size();
    }

    int write(int number, int page, int value) {
        Transaction own = number == 0 ? null : transaction(number);
        checkPage(page);
        if (value < -1 || value > 999999) {
            throw new IllegalArgumentException();
        }
        if (!on || own != null && own.state != 1) {
            throw new IllegalStateException();
        }
        for (Transaction t : transactions) {
            if (t != own && t.state == 1 && t.shadow.containsKey(page)) {
                throw new IllegalStateException();
            }
        }
        checkRoom(own == null ? nOfCommit() : 1);
        try {
            int version = program(1, page, number, value, null).version;
            if (own != null) {
                own.shadow.put(page, version);
            } else {
                committed[page] = version;
                commits++;
                if (commits >= e) {
                    makeCheckpoint();
                }
            }
            writes++;
            return version;
        } catch (PowerLost lost) {
            throw new IllegalStateException();
        }
    }

    private int valueOf(int page, int version) {
        for (Sheet s : programmed()) {
            if (s.kind == 1 && s.index == page && s.version == version) {
                return s.value;
            }
        }
        if (version != 0) {
            throw new AssertionError("version " + version + " of page " + page + " is gone");
        }
        return -1;
    }

    int read(int number, int page) {
        Transaction own = number == 0 ? null : transaction(number);
        checkPage(page);
        if (!on || own != null && own.state != 1) {
            throw new IllegalStateException();
        }
        return valueOf(page, own != null ? own.shadow.getOrDefault(page, committed[page]) : committed[page]);
    }

    int commit(int number) {
        Transaction own = transaction(number);
        if (!on || own.state != 1) {
            throw new IllegalStateException();
        }
        int count = own.shadow.size();
        if (count == 0) {
            own.state = 2;
            return 0;
        }
        checkRoom(nOfCommit());
        try {
            program(2, count, number, -2, null);
            own.shadow.forEach((page, version) -> committed[page] = version);
            own.state = 2;
            own.shadow.clear();
            commits++;
            if (commits >= e) {
                makeCheckpoint();
            }
            return count;
        } catch (PowerLost lost) {
            throw new IllegalStateException();
        }
    }

    int abort(int number) {
        Transaction own = transaction(number);
        if (!on || own.state != 1) {
            throw new IllegalStateException();
        }
        int count = own.shadow.size();
        own.state = 3;
        own.shadow.clear();
        return count;
    }

    int openReader() {
        for (int i = 0; on && i < 4; i++) {
            if (readers[i] == null) {
                readers[i] = committed.clone();
                return i;
            }
        }
        throw new IllegalStateException();
    }

    private void checkReader(int reader) {
        if (reader < 0 || reader > 3 || readers[reader] == null) {
            throw new NoSuchElementException();
        }
    }

    int readBy(int reader, int page) {
        checkReader(reader);
        checkPage(page);
        return valueOf(page, readers[reader][page]);
    }

    int closeReader(int reader) {
        checkReader(reader);
        readers[reader] = null;
        return Integer.bitCount(readers());
    }

    int checkpoint() {
        if (!on) {
            throw new IllegalStateException();
        }
        checkRoom(m + 1);
        try {
            return makeCheckpoint();
        } catch (PowerLost lost) {
            throw new IllegalStateException();
        }
    }

    // ---- power

    boolean isOn() {
        return on;
    }

    int arm(int n) {
        if (n < 0 || n > 1000) {
            throw new IllegalArgumentException();
        }
        int before = armed;
        armed = formatted ? n : 0;
        return before;
    }

    int powerOff() {
        if (!on) {
            throw new IllegalStateException();
        }
        lose();
        return openTransactions();
    }

    int recover() {
        if (on || !formatted) {
            throw new IllegalStateException();
        }
        readCheckpoint();
        TreeMap<Integer, Sheet> log = new TreeMap<>();
        for (Sheet s : programmed()) {
            if (s.version > endVersion && (s.kind == 2 || s.kind == 1 && s.group == 0)) {
                log.put(s.version, s);
            }
        }
        log.forEach((version, s) -> apply(s));
        commits = log.size();
        for (Transaction t : transactions) {
            t.state = t.state == 1 ? 4 : t.state;
        }
        on = true;
        try {
            for (int i = 0; i < b; i++) {
                if (notFree(i) > 0 && valid(i) == 0) {
                    erase(i);
                }
            }
        } catch (PowerLost lost) {
            throw new IllegalStateException();
        }
        active = newestBlock();
        int count = 0;
        for (int version : committed) {
            count += version != 0 ? 1 : 0;
        }
        return count;
    }

    private void readCheckpoint() {
        for (Sheet s : programmed()) {
            if (s.kind == 4 && s.version > endVersion) {
                endVersion = s.version;
                latest = s.group;
            }
        }
        for (Sheet s : programmed()) {
            if (s.kind == 3 && s.group == latest) {
                System.arraycopy(s.held, 0, committed, 8 * s.index, s.held.length);
            }
        }
    }

    private void apply(Sheet record) {
        if (record.kind == 1) {
            committed[record.index] = record.version;
            return;
        }
        TreeMap<Integer, Integer> greatest = new TreeMap<>();
        for (Sheet s : programmed()) {
            if (s.kind == 1 && s.group == record.group) {
                greatest.merge(s.index, s.version, Math::max);
            }
        }
        greatest.forEach((page, version) -> committed[page] = version);
    }

    private int newestBlock() {
        int greatest = 0;
        int best = -1;
        for (int i = 0; i < b; i++) {
            for (Sheet s : flash[i]) {
                if (s != null && s.sequence > greatest) {
                    greatest = s.sequence;
                    best = i;
                }
            }
        }
        return best == -1 || notFree(best) == p ? -1 : best;
    }

    // ---- questions

    int logicalPages() {
        return l;
    }

    int blocks() {
        return b;
    }

    int pagesPerBlock() {
        return p;
    }

    int version(int page) {
        checkPage(page);
        return on ? committed[page] : -1;
    }

    int place(int page) {
        checkPage(page);
        for (int i = 0; i < b * p; i++) {
            Sheet s = flash[i / p][i % p];
            if (on && s != null && s.kind == 1 && s.index == page && s.version == committed[page] && valid(s)) {
                return i;
            }
        }
        return -1;
    }

    int lockedBy(int page) {
        checkPage(page);
        for (int i = 0; on && i < transactions.size(); i++) {
            if (transactions.get(i).state == 1 && transactions.get(i).shadow.containsKey(page)) {
                return i + 1;
            }
        }
        return 0;
    }

    int transactions() {
        return transactions.size();
    }

    int state(int number) {
        return transaction(number).state;
    }

    int locks(int number) {
        return transaction(number).shadow.size();
    }

    int readers() {
        int bits = 0;
        for (int i = 0; i < 4; i++) {
            bits += readers[i] != null ? 1 << i : 0;
        }
        return bits;
    }

    int activeBlock() {
        return active;
    }

    int freeBlocks() {
        return free(active).size();
    }

    int validPages() {
        int count = 0;
        for (int i = 0; i < b; i++) {
            count += valid(i);
        }
        return count;
    }

    int block(int block, int what) {
        if (block < 0 || block >= b) {
            throw new NoSuchElementException();
        }
        int torn = 0;
        for (Sheet s : flash[block]) {
            torn += s != null && s.kind == 5 ? 1 : 0;
        }
        return pick(what, wear[block], notFree(block), valid(block), torn);
    }

    private static int pick(int what, int... answers) {
        if (what < 0 || what >= answers.length) {
            throw new IllegalArgumentException();
        }
        return answers[what];
    }

    private Sheet sheetAt(int place) {
        if (place < 0 || place >= b * p) {
            throw new NoSuchElementException();
        }
        return flash[place / p][place % p];
    }

    int flashPage(int place, int what) {
        Sheet s = sheetAt(place);
        return s == null ? pick(what, 0, -1, -1, -1, -1, -2)
                : pick(what, s.kind, s.index, s.group, s.version, s.sequence, s.value);
    }

    boolean isValid(int place) {
        return valid(sheetAt(place));
    }

    int programs() {
        return programs;
    }

    int erases() {
        return erases;
    }

    int copies() {
        return copies;
    }

    int writes() {
        return writes;
    }

    int wearGap() {
        return b == 0 ? 0 : Arrays.stream(wear).max().getAsInt() - Arrays.stream(wear).min().getAsInt();
    }

    int lastCheckpoint() {
        return latest;
    }

    int commits() {
        return commits;
    }

    int losses() {
        return losses;
    }

    int victim() {
        int fresh = on ? stepOne() : -1;
        return fresh == -1 ? -1 : stepTwo(fresh);
    }
}
