import java.util.ArrayList;

/**
 * Pages of signs, forms that pages share, and texts kept elsewhere, of which words and areas are
 * blacked out, and which are looked through for what is left.
 */
public final class RedactCheck {
    public static final int NONE = -1;

    private static final int PAGES = 4;
    private static final int MOST_FORMS = 20;
    private static final int MOST_USES = 12;
    private static final int MOST_WORDS = 4;
    private static final int MOST_AREAS = 8;
    private static final int MOST_STORES = 8;
    private static final int MOST_SIGNS = 40;
    private static final int MOST_LETTERS = 8;
    private static final int MOST_BYTES = 60;
    private static final int MOST_FINDINGS = 100;

    private static final int LEAST_CODE = 33;
    private static final int GREATEST_CODE = 126;
    private static final int BLOT = 42;
    private static final int FARTHEST = 999;
    private static final int WIDEST_SIGN = 50;
    private static final int WIDEST_AREA = 1999;
    private static final int SIGN_HEIGHT = 10;
    private static final int GAP_CODE = 0;
    private static final int GAP_WIDTH = 100;

    private static final int CODE = 0;
    private static final int X = 1;
    private static final int Y = 2;
    private static final int WIDTH = 3;
    private static final int SIGN_PARTS = 4;

    private static final int IN_PAGE = 0;
    private static final int IN_USE = 1;
    private static final int IN_STORE = 2;
    private static final int FINDING_PARTS = 5;

    private static final int PLAIN = 0;
    private static final int ZERO_FIRST = 1;
    private static final int ZERO_SECOND = 2;
    private static final int ENCODINGS = 4;

    private final ArrayList<SignRow> pages = new ArrayList<>();
    private final ArrayList<SignRow> forms = new ArrayList<>();
    private final ArrayList<Use> uses = new ArrayList<>();
    private final ArrayList<Word> words = new ArrayList<>();
    private final ArrayList<Area> areas = new ArrayList<>();
    private final ArrayList<Store> stores = new ArrayList<>();
    private final Findings findings = new Findings();
    /** The row that words are sought in; kept, so that no call has to make one. */
    private final Codes codes = new Codes();

    public RedactCheck() {
        for (int page = 0; page < PAGES; page++) {
            pages.add(new SignRow(page));
        }
    }

    public int sign(int page, int code, int x, int y, int width)
            throws IndexOutOfBoundsException, IllegalArgumentException, UnsupportedOperationException {
        return addSign(rowOf(pages, page), code, x, y, width);
    }

    public int form() throws UnsupportedOperationException {
        checkRoom(forms.size(), MOST_FORMS);
        forms.add(new SignRow(forms.size()));
        return forms.size() - 1;
    }

    public int formSign(int form, int code, int x, int y, int width)
            throws IndexOutOfBoundsException, IllegalArgumentException, UnsupportedOperationException {
        return addSign(rowOf(forms, form), code, x, y, width);
    }

    public int use(int page, int form, int dx, int dy)
            throws IndexOutOfBoundsException, IllegalArgumentException, UnsupportedOperationException {
        checkNumber(page, PAGES);
        SignRow laid = rowOf(forms, form);
        checkWithin(dx, -FARTHEST, FARTHEST);
        checkWithin(dy, -FARTHEST, FARTHEST);
        checkRoom(uses.size(), MOST_USES);
        uses.add(new Use(page, laid, dx, dy));
        return uses.size() - 1;
    }

    public int word() throws UnsupportedOperationException {
        checkRoom(words.size(), MOST_WORDS);
        words.add(new Word());
        return words.size() - 1;
    }

    public int letter(int word, int code)
            throws IndexOutOfBoundsException, IllegalArgumentException, UnsupportedOperationException {
        Word longer = wordOf(word);
        checkWithin(code, LEAST_CODE, GREATEST_CODE);
        if (code == BLOT) {
            throw new IllegalArgumentException("42 stands for what went from a store");
        }
        checkRoom(longer.count, MOST_LETTERS);
        longer.add(code);
        return longer.count;
    }

    public int area(int page, int x, int y, int wide, int high)
            throws IndexOutOfBoundsException, IllegalArgumentException, UnsupportedOperationException {
        checkNumber(page, PAGES);
        checkWithin(x, -FARTHEST, FARTHEST);
        checkWithin(y, -FARTHEST, FARTHEST);
        checkWithin(wide, 0, WIDEST_AREA);
        checkWithin(high, 0, WIDEST_AREA);
        checkRoom(areas.size(), MOST_AREAS);
        areas.add(new Area(page, x, y, wide, high));
        return areas.size();
    }

    public int store(int encoding) throws IllegalArgumentException, UnsupportedOperationException {
        checkWithin(encoding, 0, ENCODINGS - 1);
        checkRoom(stores.size(), MOST_STORES);
        stores.add(new Store(encoding));
        return stores.size() - 1;
    }

    public int octet(int store, byte b) throws IndexOutOfBoundsException, UnsupportedOperationException {
        Store longer = storeOf(store);
        checkRoom(longer.count, MOST_BYTES);
        longer.add(b);
        return longer.count;
    }

    public int black() throws UnsupportedOperationException {
        if (forms.size() + markUses() > MOST_FORMS) {
            throw new UnsupportedOperationException("there would be too many forms");
        }
        return cutPages() + cutUses() + cutStores();
    }

    public int look() {
        findings.clear();
        for (int page = 0; page < pages.size(); page++) {
            pages.get(page).readInto(codes);
            findWords(IN_PAGE, page, NONE);
        }
        for (int use = 0; use < uses.size(); use++) {
            uses.get(use).form.readInto(codes);
            findWords(IN_USE, use, NONE);
        }
        for (int store = 0; store < stores.size(); store++) {
            lookThroughStore(store);
        }
        return findings.count;
    }

    public int left(int i, int what) throws IndexOutOfBoundsException {
        checkNumber(i, findings.count);
        checkNumber(what, FINDING_PARTS);
        return findings.part(i, what);
    }

    public int at(int of, int number, int i, int what) throws IndexOutOfBoundsException {
        checkNumber(of, 2);
        SignRow row = rowOf(of == 0 ? pages : forms, number);
        checkNumber(i, row.count);
        checkNumber(what, SIGN_PARTS);
        return row.part(i, what);
    }

    public byte byteOf(int store, int i) throws IndexOutOfBoundsException {
        Store asked = storeOf(store);
        checkNumber(i, asked.count);
        return asked.value(i);
    }

    public int formOf(int use) throws IndexOutOfBoundsException {
        if (use < 0 || use >= uses.size()) {
            throw new IndexOutOfBoundsException("there is no such use");
        }
        return uses.get(use).form.number;
    }

    public int many(int what, int number) throws IndexOutOfBoundsException {
        switch (what) {
            case 0:
                return rowOf(pages, number).count;
            case 1:
                return rowOf(forms, number).count;
            case 2:
                return storeOf(number).count;
            case 3:
                return wordOf(number).count;
            default:
                throw new IndexOutOfBoundsException("nothing of that kind is counted");
        }
    }

    public int told(int what) {
        switch (what) {
            case 0:
                return forms.size();
            case 1:
                return uses.size();
            case 2:
                return words.size();
            case 3:
                return areas.size();
            case 4:
                return stores.size();
            case 5:
                return findings.count;
            default:
                return NONE;
        }
    }

    private static void checkNumber(int number, int count) {
        if (number < 0 || number >= count) {
            throw new IndexOutOfBoundsException("there is no such number");
        }
    }

    private static void checkWithin(int value, int least, int most) {
        if (value < least || value > most) {
            throw new IllegalArgumentException("a number is outside its bounds");
        }
    }

    private static void checkRoom(int count, int most) {
        if (count >= most) {
            throw new UnsupportedOperationException("there may be no more");
        }
    }

    private static SignRow rowOf(ArrayList<SignRow> rows, int number) {
        if (number < 0 || number >= rows.size()) {
            throw new IndexOutOfBoundsException("there is no such page or form");
        }
        return rows.get(number);
    }

    private Word wordOf(int number) {
        if (number < 0 || number >= words.size()) {
            throw new IndexOutOfBoundsException("there is no such word");
        }
        return words.get(number);
    }

    private Store storeOf(int number) {
        if (number < 0 || number >= stores.size()) {
            throw new IndexOutOfBoundsException("there is no such store");
        }
        return stores.get(number);
    }

    private static int addSign(SignRow row, int code, int x, int y, int width) {
        checkWithin(code, LEAST_CODE, GREATEST_CODE);
        checkWithin(x, 0, FARTHEST);
        checkWithin(y, 0, FARTHEST);
        checkWithin(width, 1, WIDEST_SIGN);
        checkRoom(row.count, MOST_SIGNS);
        row.add(code, x, y, width);
        return row.count;
    }

    /** Marks the uses' signs, cutting none, and tells how many copies that asks for. */
    private int markUses() {
        int copies = 0;
        for (int i = 0; i < uses.size(); i++) {
            Use use = uses.get(i);
            use.marks = marksOf(use.form, use.page, use.dx, use.dy);
            use.twin = twinOf(use, i);
            if (use.marks != 0 && use.twin == null) {
                copies++;
            }
        }
        return copies;
    }

    /** The first of the uses before place i that lays the same form with the same marks, or null. */
    private Use twinOf(Use use, int i) {
        for (int j = 0; j < i && j < uses.size(); j++) {
            Use earlier = uses.get(j);
            if (earlier.form.number == use.form.number && earlier.marks == use.marks) {
                return earlier;
            }
        }
        return null;
    }

    private int cutPages() {
        int gone = 0;
        for (int page = 0; page < pages.size(); page++) {
            SignRow row = pages.get(page);
            long marks = marksOf(row, page, 0, 0);
            row.cut(marks);
            gone += Long.bitCount(marks);
        }
        return gone;
    }

    private int cutUses() {
        int gone = 0;
        for (int i = 0; i < uses.size(); i++) {
            Use use = uses.get(i);
            if (use.marks != 0) {
                // A twin is an earlier use, so it lays its copy by now.
                use.form = use.twin == null ? addCutCopy(use.form, use.marks) : use.twin.form;
                gone += Long.bitCount(use.marks);
            }
        }
        return gone;
    }

    private SignRow addCutCopy(SignRow form, long marks) {
        SignRow copy = form.copyNumbered(forms.size());
        copy.cut(marks);
        forms.add(copy);
        return copy;
    }

    private int cutStores() {
        int gone = 0;
        for (int i = 0; i < stores.size(); i++) {
            Store store = stores.get(i);
            if (store.readInto(codes, store.encoding)) {
                long marks = marksOfWords();
                codes.cut(marks);
                store.write(codes);
                gone += Long.bitCount(marks);
            } else {
                store.count = 0;
            }
        }
        return gone;
    }

    /** The signs of a row that are marked as it lies on a page: bit i stands for sign i. */
    private long marksOf(SignRow row, int page, int dx, int dy) {
        row.readInto(codes);
        return marksOfWords() | marksOfAreas(row, page, dx, dy);
    }

    private long marksOfAreas(SignRow row, int page, int dx, int dy) {
        long marks = 0;
        for (int i = 0; i < row.count; i++) {
            if (row.part(i, CODE) != GAP_CODE
                    && isInArea(page, row.part(i, X) + dx, row.part(i, Y) + dy, row.part(i, WIDTH))) {
                marks |= 1L << i;
            }
        }
        return marks;
    }

    private boolean isInArea(int page, int x, int y, int width) {
        for (int i = 0; i < areas.size(); i++) {
            Area area = areas.get(i);
            if (area.page == page && area.touches(x, y, width)) {
                return true;
            }
        }
        return false;
    }

    /** The places in codes that belong to words standing there: bit i stands for place i. */
    private long marksOfWords() {
        long marks = 0;
        for (int place = 0; place < codes.count; place++) {
            for (int i = 0; i < words.size(); i++) {
                Word word = words.get(i);
                if (word.standsIn(codes, place)) {
                    marks |= ((1L << word.count) - 1) << place;
                }
            }
        }
        return marks;
    }

    private void lookThroughStore(int number) {
        if (number < 0 || number >= stores.size()) {
            return;
        }
        Store store = stores.get(number);
        for (int encoding = 0; encoding < ENCODINGS; encoding++) {
            if (store.readInto(codes, encoding)) {
                findWords(IN_STORE, number, encoding);
            }
        }
    }

    private void findWords(int of, int number, int encoding) {
        for (int place = 0; place < codes.count; place++) {
            for (int word = 0; word < words.size(); word++) {
                if (words.get(word).standsIn(codes, place)) {
                    findings.add(of, number, place, word, encoding);
                }
            }
        }
    }

    /** Elements one behind the other, whose marked runs can each be made into a single one. */
    private abstract static class Row {
        int count;

        abstract void keep(int from, int to);

        abstract void blot(int from, int to);

        final void cut(long marks) {
            int kept = 0;
            boolean inRun = false;
            for (int i = 0; i < count; i++) {
                boolean marked = (marks >>> i & 1L) != 0;
                if (!marked) {
                    keep(i, kept);
                    kept++;
                } else if (!inRun) {
                    blot(i, kept);
                    kept++;
                }
                inRun = marked;
            }
            count = kept;
        }
    }

    /** The signs of a page or of a form, which knows its own number. */
    private static final class SignRow extends Row {
        final int number;
        private final int[] parts = new int[MOST_SIGNS * SIGN_PARTS];

        SignRow(int number) {
            this.number = number;
        }

        void add(int code, int x, int y, int width) {
            if (count < MOST_SIGNS) {
                put(count, code, x, y, width);
                count++;
            }
        }

        int part(int i, int what) {
            if (i < 0 || i >= MOST_SIGNS || what < 0 || what >= SIGN_PARTS) {
                return NONE;
            }
            return parts[i * SIGN_PARTS + what];
        }

        void readInto(Codes codes) {
            codes.count = 0;
            for (int i = 0; i < count; i++) {
                codes.add(part(i, CODE));
            }
        }

        SignRow copyNumbered(int copyNumber) {
            SignRow copy = new SignRow(copyNumber);
            for (int i = 0; i < count; i++) {
                copy.add(part(i, CODE), part(i, X), part(i, Y), part(i, WIDTH));
            }
            return copy;
        }

        void keep(int from, int to) {
            put(to, part(from, CODE), part(from, X), part(from, Y), part(from, WIDTH));
        }

        void blot(int from, int to) {
            put(to, GAP_CODE, part(from, X), part(from, Y), GAP_WIDTH);
        }

        private void put(int i, int code, int x, int y, int width) {
            if (i < 0 || i >= MOST_SIGNS) {
                return;
            }
            int start = i * SIGN_PARTS;
            parts[start + CODE] = code;
            parts[start + X] = x;
            parts[start + Y] = y;
            parts[start + WIDTH] = width;
        }
    }

    /** Codes of a row of signs or of a store; a store's can be the longest. */
    private static final class Codes extends Row {
        private final int[] values = new int[MOST_BYTES];

        void add(int code) {
            if (count >= 0 && count < values.length) {
                values[count] = code;
                count++;
            }
        }

        int value(int i) {
            return i >= 0 && i < count && i < values.length ? values[i] : NONE;
        }

        void keep(int from, int to) {
            put(to, value(from));
        }

        void blot(int from, int to) {
            put(to, BLOT);
        }

        private void put(int i, int code) {
            if (i >= 0 && i < values.length) {
                values[i] = code;
            }
        }
    }

    private static final class Word {
        int count;
        private final int[] letters = new int[MOST_LETTERS];

        void add(int code) {
            if (count >= 0 && count < letters.length) {
                letters[count] = code;
                count++;
            }
        }

        boolean standsIn(Codes codes, int place) {
            if (count == 0 || place + count > codes.count) {
                return false;
            }
            for (int i = 0; i < count && i < letters.length; i++) {
                if (codes.value(place + i) != letters[i]) {
                    return false;
                }
            }
            return true;
        }
    }

    private static final class Area {
        final int page;
        private final int x;
        private final int y;
        private final int wide;
        private final int high;

        Area(int page, int x, int y, int wide, int high) {
            this.page = page;
            this.x = x;
            this.y = y;
            this.wide = wide;
            this.high = high;
        }

        boolean touches(int signX, int signY, int width) {
            // Without dots of its own an area could still lie between a sign's edges.
            return wide > 0 && high > 0
                    && signX < x + wide && x < signX + width
                    && signY < y + high && y < signY + SIGN_HEIGHT;
        }
    }

    private static final class Use {
        final int page;
        final int dx;
        final int dy;
        SignRow form;
        /** What the blacking out under way marked, and the earlier use whose copy serves here too. */
        long marks;
        Use twin;

        Use(int page, SignRow form, int dx, int dy) {
            this.page = page;
            this.form = form;
            this.dx = dx;
            this.dy = dy;
        }
    }

    private static final class Store {
        final int encoding;
        int count;
        private final byte[] bytes = new byte[MOST_BYTES];

        Store(int encoding) {
            this.encoding = encoding;
        }

        void add(byte b) {
            if (count >= 0 && count < bytes.length) {
                bytes[count] = b;
                count++;
            }
        }

        byte value(int i) {
            return i >= 0 && i < bytes.length ? bytes[i] : 0;
        }

        /** Whether the bytes are well in an encoding; if so, codes holds what they say in it. */
        boolean readInto(Codes codes, int as) {
            codes.count = 0;
            int step = as == PLAIN ? 1 : 2;
            for (int i = 0; i < count; i += step) {
                int code = decode(as, unsigned(i), unsigned(i + 1));
                if (code == NONE) {
                    return false;
                }
                codes.add(code);
            }
            return true;
        }

        void write(Codes codes) {
            count = 0;
            for (int i = 0; i < codes.count; i++) {
                writeCode(codes.value(i));
            }
        }

        private void writeCode(int code) {
            switch (encoding) {
                case PLAIN:
                    add((byte) code);
                    break;
                case ZERO_FIRST:
                    add((byte) 0);
                    add((byte) code);
                    break;
                case ZERO_SECOND:
                    add((byte) code);
                    add((byte) 0);
                    break;
                default:
                    add(digitOf(code >> 4 & 15));
                    add(digitOf(code & 15));
                    break;
            }
        }

        /** A byte that is missing is NONE, which is well in no encoding of two bytes. */
        private int unsigned(int i) {
            return i < count ? value(i) & 255 : NONE;
        }

        private static int decode(int as, int first, int second) {
            switch (as) {
                case PLAIN:
                    return first;
                case ZERO_FIRST:
                    return first == 0 ? second : NONE;
                case ZERO_SECOND:
                    return second == 0 ? first : NONE;
                default:
                    int high = valueOfDigit(first);
                    int low = valueOfDigit(second);
                    return high == NONE || low == NONE ? NONE : high * 16 + low;
            }
        }

        private static int valueOfDigit(int digit) {
            if (digit >= '0' && digit <= '9') {
                return digit - '0';
            }
            if (digit >= 'A' && digit <= 'F') {
                return digit - 'A' + 10;
            }
            if (digit >= 'a' && digit <= 'f') {
                return digit - 'a' + 10;
            }
            return NONE;
        }

        private static byte digitOf(int value) {
            return (byte) (value < 10 ? '0' + value : 'A' + value - 10);
        }
    }

    /** What the latest looking through found; one row for all of them, used again by each. */
    private static final class Findings {
        int count;
        private final int[] parts = new int[MOST_FINDINGS * FINDING_PARTS];

        void clear() {
            count = 0;
        }

        void add(int of, int number, int place, int word, int encoding) {
            if (count < 0 || count >= MOST_FINDINGS) {
                return;
            }
            int start = count * FINDING_PARTS;
            parts[start] = of;
            parts[start + 1] = number;
            parts[start + 2] = place;
            parts[start + 3] = word;
            parts[start + 4] = encoding;
            count++;
        }

        int part(int i, int what) {
            if (i < 0 || i >= MOST_FINDINGS || what < 0 || what >= FINDING_PARTS) {
                return NONE;
            }
            return parts[i * FINDING_PARTS + what];
        }
    }
}
