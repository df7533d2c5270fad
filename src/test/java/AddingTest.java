/** Promises 1 to 10: a new object, and the calls that add. */
public final class AddingTest {
    private static final int[] NO_NUMBERS = {-1, Integer.MIN_VALUE, Integer.MAX_VALUE};

    private AddingTest() {
    }

    public static void main(String[] args) {
        newObject();
        signs();
        signsThatAreRefused();
        forms();
        formSigns();
        uses();
        words();
        letters();
        areas();
        stores();
        octets();
        refusalsChangeNothing();
        Check.end();
    }

    /** Promise 1. */
    private static void newObject() {
        RedactCheck x = new RedactCheck();
        for (int what = 0; what <= 5; what++) {
            Check.due("new: told " + what, x.told(what), 0);
        }
        for (int page = 0; page < 4; page++) {
            Check.due("new: signs of page " + page, x.many(0, page), 0);
        }
        Check.refused("new: a fifth page", Check.INDEX, () -> x.many(0, 4));
        Check.due("new: black", x.black(), 0);
        Check.due("new: look", x.look(), 0);
        new RedactCheck().form();
        Check.due("objects do not share forms", x.told(0), 0);
    }

    /** Promise 2. */
    private static void signs() {
        RedactCheck x = new RedactCheck();
        Check.due("sign, least of all", x.sign(0, 33, 0, 0, 1), 1);
        Check.due("sign, greatest of all", x.sign(0, 126, 999, 999, 50), 2);
        Check.due("sign, 42 is a sign's code too", x.sign(0, 42, 5, 6, 7), 3);
        Check.due("sign of the last page", x.sign(3, 65, 1, 2, 3), 1);
        Check.same("page 0", Check.row(x, 0, 0), "33@0,0+1 126@999,999+50 42@5,6+7");
        Check.same("page 3", Check.row(x, 0, 3), "65@1,2+3");
        Check.due("page 1 stays empty", x.many(0, 1), 0);
        for (int i = 4; i <= 40; i++) {
            Check.due("sign " + i, x.sign(0, 65, 0, 0, 1), i);
        }
        Check.refused("a sign too many", Check.UNSUPPORTED, () -> x.sign(0, 65, 0, 0, 1));
        Check.refused("wrong before too many", Check.ARGUMENT, () -> x.sign(0, 65, 0, 0, 0));
        Check.due("another page has room", x.sign(1, 65, 0, 0, 1), 1);
    }

    private static void signsThatAreRefused() {
        RedactCheck x = new RedactCheck();
        x.form();
        for (int of = 0; of < 2; of++) {
            boolean page = of == 0;
            for (int number : NO_NUMBERS) {
                Check.refused("sign, no such row", Check.INDEX, () -> add(x, page, number, 0, -1, -1, 0));
            }
            Check.refused("sign, the number behind the last", Check.INDEX, () -> add(x, page, page ? 4 : 1, 65, 0, 0, 1));
            for (int code : new int[] {32, 127, 0, -1, 33 + 256, Integer.MIN_VALUE, Integer.MAX_VALUE}) {
                Check.refused("sign, code " + code, Check.ARGUMENT, () -> add(x, page, 0, code, 0, 0, 1));
            }
            for (int place : new int[] {-1, 1000, Integer.MIN_VALUE, Integer.MAX_VALUE}) {
                Check.refused("sign, x " + place, Check.ARGUMENT, () -> add(x, page, 0, 65, place, 0, 1));
                Check.refused("sign, y " + place, Check.ARGUMENT, () -> add(x, page, 0, 65, 0, place, 1));
            }
            for (int width : new int[] {0, 51, 100, -1, Integer.MIN_VALUE, Integer.MAX_VALUE}) {
                Check.refused("sign, width " + width, Check.ARGUMENT, () -> add(x, page, 0, 65, 0, 0, width));
            }
            Check.due("refused signs are not there", x.many(of, 0), 0);
        }
    }

    private static int add(RedactCheck x, boolean page, int number, int code, int atX, int atY, int width) {
        return page ? x.sign(number, code, atX, atY, width) : x.formSign(number, code, atX, atY, width);
    }

    /** Promise 3. */
    private static void forms() {
        RedactCheck x = new RedactCheck();
        for (int i = 0; i < 20; i++) {
            Check.due("form", x.form(), i);
            Check.due("form's signs", x.many(1, i), 0);
        }
        Check.refused("a form too many", Check.UNSUPPORTED, x::form);
        Check.due("forms", x.told(0), 20);

        RedactCheck y = new RedactCheck();
        y.use(0, Check.form(y, 0, 0, "a"), 0, 0);
        Check.word(y, "a");
        y.black();
        Check.due("a copy takes a number", y.form(), 2);
        for (int i = 3; i < 20; i++) {
            y.form();
        }
        Check.refused("a copy takes a place", Check.UNSUPPORTED, y::form);
    }

    /** Promise 4. */
    private static void formSigns() {
        RedactCheck x = new RedactCheck();
        x.form();
        x.form();
        Check.due("formSign", x.formSign(1, 33, 0, 0, 1), 1);
        Check.due("formSign", x.formSign(1, 126, 999, 999, 50), 2);
        Check.same("form 1", Check.row(x, 1, 1), "33@0,0+1 126@999,999+50");
        Check.due("form 0 stays empty", x.many(1, 0), 0);
        Check.due("pages stay empty", x.many(0, 1), 0);
        for (int i = 3; i <= 40; i++) {
            Check.due("formSign " + i, x.formSign(1, 65, 0, 0, 1), i);
        }
        Check.refused("a sign too many", Check.UNSUPPORTED, () -> x.formSign(1, 65, 0, 0, 1));
        Check.refused("wrong before too many", Check.ARGUMENT, () -> x.formSign(1, 32, 0, 0, 1));
        Check.refused("no form before wrong", Check.INDEX, () -> x.formSign(2, 32, 0, 0, 1));

        RedactCheck y = new RedactCheck();
        y.use(0, Check.form(y, 0, 0, "ab"), 0, 0);
        Check.word(y, "a");
        y.black();
        Check.due("a copy takes signs", y.formSign(1, 99, 7, 8, 9), 3);
        Check.same("the copy", Check.row(y, 1, 1), "0@0,0+100 98@10,0+10 99@7,8+9");
        Check.due("its form does not", y.many(1, 0), 2);
    }

    /** Promise 5. */
    private static void uses() {
        RedactCheck x = new RedactCheck();
        Check.refused("use, no form yet", Check.INDEX, () -> x.use(0, 0, 0, 0));
        x.form();
        x.form();
        for (int number : new int[] {-1, 4, Integer.MIN_VALUE, Integer.MAX_VALUE}) {
            Check.refused("use, page " + number, Check.INDEX, () -> x.use(number, 0, 1000, 0));
        }
        for (int number : new int[] {-1, 2, Integer.MIN_VALUE, Integer.MAX_VALUE}) {
            Check.refused("use, form " + number, Check.INDEX, () -> x.use(0, number, 0, 1000));
        }
        for (int far : new int[] {-1000, 1000, Integer.MIN_VALUE, Integer.MAX_VALUE}) {
            Check.refused("use, dx " + far, Check.ARGUMENT, () -> x.use(0, 0, far, 0));
            Check.refused("use, dy " + far, Check.ARGUMENT, () -> x.use(0, 0, 0, far));
        }
        Check.due("refused uses are not there", x.told(1), 0);
        Check.due("use, least", x.use(0, 0, -999, -999), 0);
        Check.due("use, greatest", x.use(3, 1, 999, 999), 1);
        Check.due("use's form", x.formOf(1), 1);
        for (int i = 2; i < 12; i++) {
            Check.due("use " + i, x.use(0, 0, 0, 0), i);
        }
        Check.refused("a use too many", Check.UNSUPPORTED, () -> x.use(0, 0, 0, 0));
        Check.refused("wrong before too many", Check.ARGUMENT, () -> x.use(0, 0, 0, 1000));
        Check.refused("no page before too many", Check.INDEX, () -> x.use(4, 0, 0, 0));
        Check.due("uses", x.told(1), 12);
    }

    /** Promise 6. */
    private static void words() {
        RedactCheck x = new RedactCheck();
        for (int i = 0; i < 4; i++) {
            Check.due("word", x.word(), i);
            Check.due("word's codes", x.many(3, i), 0);
        }
        Check.refused("a word too many", Check.UNSUPPORTED, x::word);
        Check.due("words", x.told(2), 4);
    }

    /** Promise 7. */
    private static void letters() {
        RedactCheck x = new RedactCheck();
        Check.refused("letter, no word yet", Check.INDEX, () -> x.letter(0, 65));
        x.word();
        x.word();
        for (int number : new int[] {-1, 2, Integer.MIN_VALUE, Integer.MAX_VALUE}) {
            Check.refused("letter, word " + number, Check.INDEX, () -> x.letter(number, 42));
        }
        for (int code : new int[] {32, 42, 127, 0, -1, Integer.MIN_VALUE, Integer.MAX_VALUE}) {
            Check.refused("letter, code " + code, Check.ARGUMENT, () -> x.letter(0, code));
        }
        int[] fine = {33, 41, 43, 126, 65, 65, 65, 65};
        for (int i = 0; i < 8; i++) {
            Check.due("letter " + i, x.letter(1, fine[i]), i + 1);
        }
        Check.refused("a letter too many", Check.UNSUPPORTED, () -> x.letter(1, 65));
        Check.refused("wrong before too many", Check.ARGUMENT, () -> x.letter(1, 42));
        Check.due("the word's codes", x.many(3, 1), 8);
        Check.due("the other word's codes", x.many(3, 0), 0);
    }

    /** Promise 8. */
    private static void areas() {
        RedactCheck x = new RedactCheck();
        for (int number : new int[] {-1, 4, Integer.MIN_VALUE, Integer.MAX_VALUE}) {
            Check.refused("area, page " + number, Check.INDEX, () -> x.area(number, 1000, 0, 0, 0));
        }
        for (int place : new int[] {-1000, 1000, Integer.MIN_VALUE, Integer.MAX_VALUE}) {
            Check.refused("area, x " + place, Check.ARGUMENT, () -> x.area(0, place, 0, 1, 1));
            Check.refused("area, y " + place, Check.ARGUMENT, () -> x.area(0, 0, place, 1, 1));
        }
        for (int far : new int[] {-1, 2000, Integer.MIN_VALUE, Integer.MAX_VALUE}) {
            Check.refused("area, wide " + far, Check.ARGUMENT, () -> x.area(0, 0, 0, far, 1));
            Check.refused("area, high " + far, Check.ARGUMENT, () -> x.area(0, 0, 0, 1, far));
        }
        Check.due("refused areas are not there", x.told(3), 0);
        Check.due("area, least", x.area(0, -999, -999, 0, 0), 1);
        Check.due("area, greatest", x.area(3, 999, 999, 1999, 1999), 2);
        for (int i = 3; i <= 8; i++) {
            Check.due("area", x.area(1, 0, 0, 1, 1), i);
        }
        Check.refused("an area too many", Check.UNSUPPORTED, () -> x.area(1, 0, 0, 1, 1));
        Check.refused("wrong before too many", Check.ARGUMENT, () -> x.area(1, 0, 0, 1, 2000));
        Check.due("areas", x.told(3), 8);
    }

    /** Promise 9. */
    private static void stores() {
        RedactCheck x = new RedactCheck();
        for (int encoding : new int[] {-1, 4, Integer.MIN_VALUE, Integer.MAX_VALUE}) {
            Check.refused("store, encoding " + encoding, Check.ARGUMENT, () -> x.store(encoding));
        }
        for (int i = 0; i < 8; i++) {
            Check.due("store", x.store(i % 4), i);
            Check.due("store's bytes", x.many(2, i), 0);
        }
        Check.refused("a store too many", Check.UNSUPPORTED, () -> x.store(0));
        Check.refused("wrong before too many", Check.ARGUMENT, () -> x.store(4));
        Check.due("stores", x.told(4), 8);
    }

    /** Promise 10. */
    private static void octets() {
        RedactCheck x = new RedactCheck();
        Check.refused("octet, no store yet", Check.INDEX, () -> x.octet(0, (byte) 1));
        x.store(3);
        x.store(0);
        for (int number : new int[] {-1, 2, Integer.MIN_VALUE, Integer.MAX_VALUE}) {
            Check.refused("octet, store " + number, Check.INDEX, () -> x.octet(number, (byte) 1));
        }
        for (int i = 0; i < 60; i++) {
            Check.due("octet", x.octet(1, (byte) (i * 5 - 128)), i + 1);
        }
        Check.refused("a byte too many", Check.UNSUPPORTED, () -> x.octet(1, (byte) 1));
        Check.due("first byte", x.byteOf(1, 0), -128);
        Check.due("last byte", x.byteOf(1, 59), (byte) (59 * 5 - 128));
        Check.due("the other store's bytes", x.many(2, 0), 0);
    }

    private static void refusalsChangeNothing() {
        RedactCheck x = new RedactCheck();
        Check.signs(x, 0, 0, 0, "abc");
        x.use(0, Check.form(x, 0, 0, "abc"), 0, 0);
        Check.word(x, "b");
        Check.store(x, 0, 97, 98);
        x.look();
        String before = Check.whole(x);
        Check.told(() -> x.sign(0, 32, 0, 0, 1));
        Check.told(() -> x.formSign(0, 65, 1000, 0, 1));
        Check.told(() -> x.use(0, 1, 0, 0));
        Check.told(() -> x.letter(0, 42));
        Check.told(() -> x.area(0, 0, 0, -1, 0));
        Check.told(() -> x.store(9));
        Check.told(() -> x.octet(1, (byte) 0));
        Check.told(() -> x.left(9, 0));
        Check.same("after refusals", Check.whole(x), before);
    }
}
