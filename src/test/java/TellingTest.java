/** Promises 14 to 18: the calls that tell; a test for each sentence. */
public final class TellingTest {
    private static final int LEAST = Integer.MIN_VALUE;
    private static final int GREATEST = Integer.MAX_VALUE;

    private TellingTest() {
    }

    public static void main(String[] args) {
        Check.sentence("14: of sign i of a page: its code, x, y, width", TellingTest::atOfPages);
        Check.sentence("14: or FORM (1)", TellingTest::atOfForms);
        Check.sentence("14: of a GAP", TellingTest::atOfGaps);
        Check.sentence("14: IndexOutOfBoundsException, also for of", TellingTest::atOf);
        Check.sentence("14: no such page", TellingTest::atPage);
        Check.sentence("14: no such FORM", TellingTest::atForm);
        Check.sentence("14: no such sign", TellingTest::atSign);
        Check.sentence("14: no such sign any more", TellingTest::atSignsThatWent);
        Check.sentence("14: also for what", TellingTest::atWhat);
        Check.sentence("15: byte i of a STORE", TellingTest::bytesOfAStore);
        Check.sentence("15: no such STORE", TellingTest::byteOfStore);
        Check.sentence("15: no such byte", TellingTest::byteOfPlace);
        Check.sentence("15: no such byte any more", TellingTest::bytesThatWent);
        Check.sentence("16: the FORM that a USE lays now", TellingTest::formOfUses);
        Check.sentence("16: no such USE", TellingTest::formOfNoUse);
        Check.sentence("17: how many signs a page has", TellingTest::manyOfPages);
        Check.sentence("17: a FORM (1) has", TellingTest::manyOfForms);
        Check.sentence("17: bytes a STORE (2)", TellingTest::manyOfStores);
        Check.sentence("17: codes a WORD (3)", TellingTest::manyOfWords);
        Check.sentence("17: IndexOutOfBoundsException, also for what", TellingTest::manyWhat);
        Check.sentence("18: FORMS, USES, WORDS, AREAS, STORES, places that are LEFT", TellingTest::told);
        Check.sentence("18: as many as there may be", TellingTest::toldAtTheMost);
        Check.sentence("18: NONE for others", TellingTest::toldOthers);
        Check.end();
    }

    private static RedactCheck some() {
        RedactCheck x = new RedactCheck();
        x.sign(0, 70, 11, 12, 13);
        x.sign(3, 71, 21, 22, 23);
        x.sign(3, 72, 24, 25, 26);
        x.form();
        x.form();
        x.formSign(0, 79, 27, 28, 29);
        x.formSign(1, 80, 31, 32, 33);
        x.formSign(1, 81, 34, 35, 36);
        x.formSign(1, 82, 37, 38, 39);
        x.use(0, 1, 0, 0);
        x.use(1, 0, 0, 0);
        Check.word(x, "F");
        Check.word(x, "abcdefgh");
        Check.store(x, 0, 5);
        Check.store(x, 2, 0, 127, -128, 255);
        x.look();
        return x;
    }

    private static void atOfPages() {
        int[] first = {71, 21, 22, 23};
        int[] last = {72, 24, 25, 26};
        for (int what = 0; what < 4; what++) {
            Check.due("the first, what " + what, some().at(0, 3, 0, what), first[what]);
            Check.due("the last, what " + what, some().at(0, 3, 1, what), last[what]);
        }
        RedactCheck x = new RedactCheck();
        for (int i = 0; i < 40; i++) {
            x.sign(0, 80 + i, i, 2 * i, 50 - i);
        }
        for (int i = 0; i < 40; i++) {
            Check.due("code of sign " + i, x.at(0, 0, i, 0), 80 + i);
            Check.due("x of sign " + i, x.at(0, 0, i, 1), i);
            Check.due("y of sign " + i, x.at(0, 0, i, 2), 2 * i);
            Check.due("width of sign " + i, x.at(0, 0, i, 3), 50 - i);
        }
    }

    private static void atOfForms() {
        int[] first = {79, 27, 28, 29};
        int[] last = {82, 37, 38, 39};
        for (int what = 0; what < 4; what++) {
            Check.due("form 0, what " + what, some().at(1, 0, 0, what), first[what]);
            Check.due("form 1, what " + what, some().at(1, 1, 2, what), last[what]);
        }
    }

    private static void atOfGaps() {
        RedactCheck x = some();
        x.black();
        int[] due = {0, 11, 12, 100};
        for (int what = 0; what < 4; what++) {
            Check.due("what " + what, x.at(0, 0, 0, what), due[what]);
        }
    }

    private static void atOf() {
        for (int of : new int[] {-1, 2, LEAST, GREATEST}) {
            Check.refusedForNothing("of " + of, Check.INDEX, TellingTest::some, o -> o.at(of, 0, 0, 0));
        }
        Check.due("of 0", some().at(0, 0, 0, 0), 70);
        Check.due("of 1", some().at(1, 0, 0, 0), 79);
    }

    private static void atPage() {
        for (int page : new int[] {-1, 4, LEAST, GREATEST}) {
            Check.refusedForNothing("page " + page, Check.INDEX, TellingTest::some, o -> o.at(0, page, 0, 0));
        }
    }

    private static void atForm() {
        Check.refused("none yet", Check.INDEX, () -> new RedactCheck().at(1, 0, 0, 0));
        for (int form : new int[] {-1, 2, 3, 19, 20, LEAST, GREATEST}) {
            Check.refusedForNothing("form " + form, Check.INDEX, TellingTest::some, o -> o.at(1, form, 0, 0));
        }
    }

    private static void atSign() {
        for (int i : new int[] {-1, 2, 39, 40, LEAST, GREATEST}) {
            Check.refusedForNothing("of a page, sign " + i, Check.INDEX, TellingTest::some, o -> o.at(0, 3, i, 0));
        }
        for (int i : new int[] {-1, 3, 39, 40, LEAST, GREATEST}) {
            Check.refusedForNothing("of a form, sign " + i, Check.INDEX, TellingTest::some, o -> o.at(1, 1, i, 0));
        }
        Check.refusedForNothing("of a page without signs", Check.INDEX, TellingTest::some, o -> o.at(0, 1, 0, 0));
        RedactCheck x = new RedactCheck();
        Check.signs(x, 1, 0, 0, "a".repeat(40));
        Check.due("the 40th", x.at(0, 1, 39, 1), 390);
        Check.refused("the 41st", Check.INDEX, () -> x.at(0, 1, 40, 1));
    }

    private static void atSignsThatWent() {
        RedactCheck x = some();
        x.area(3, 0, 0, 500, 500);
        x.black();
        Check.due("the gap for two", x.at(0, 3, 0, 0), 0);
        Check.refused("the second of them", Check.INDEX, () -> x.at(0, 3, 1, 0));
    }

    private static void atWhat() {
        for (int what : new int[] {-1, 4, LEAST, GREATEST}) {
            Check.refusedForNothing("of a page, what " + what, Check.INDEX, TellingTest::some, o -> o.at(0, 3, 0, what));
            Check.refusedForNothing("of a form, what " + what, Check.INDEX, TellingTest::some, o -> o.at(1, 1, 1, what));
        }
    }

    private static void bytesOfAStore() {
        Check.due("one", some().byteOf(0, 0), 5);
        int[] due = {0, 127, -128, -1};
        for (int i = 0; i < 4; i++) {
            Check.due("byte " + i, some().byteOf(1, i), due[i]);
        }
        RedactCheck x = new RedactCheck();
        x.store(1);
        for (int i = 0; i < 60; i++) {
            x.octet(0, (byte) (i * 5 - 128));
        }
        for (int i = 0; i < 60; i++) {
            Check.due("byte " + i + " of 60", x.byteOf(0, i), (byte) (i * 5 - 128));
        }
    }

    private static void byteOfStore() {
        Check.refused("none yet", Check.INDEX, () -> new RedactCheck().byteOf(0, 0));
        for (int store : new int[] {-1, 2, 7, 8, LEAST, GREATEST}) {
            Check.refusedForNothing("store " + store, Check.INDEX, TellingTest::some, o -> o.byteOf(store, 0));
        }
    }

    private static void byteOfPlace() {
        for (int i : new int[] {-1, 4, 59, 60, LEAST, GREATEST}) {
            Check.refusedForNothing("byte " + i, Check.INDEX, TellingTest::some, o -> o.byteOf(1, i));
        }
        RedactCheck x = new RedactCheck();
        x.store(0);
        Check.refused("of an empty one", Check.INDEX, () -> x.byteOf(0, 0));
    }

    private static void bytesThatWent() {
        RedactCheck x = new RedactCheck();
        Check.word(x, "ab");
        Check.store(x, 0, 5, 'a', 'b');
        Check.store(x, 1, 5, 'a');
        x.black();
        Check.due("the code for two", x.byteOf(0, 1), 42);
        Check.refused("the second of them", Check.INDEX, () -> x.byteOf(0, 2));
        Check.refused("of one that was not well", Check.INDEX, () -> x.byteOf(1, 0));
    }

    private static void formOfUses() {
        RedactCheck x = some();
        Check.due("use 0", x.formOf(0), 1);
        Check.due("use 1", x.formOf(1), 0);
        x.area(1, 27, 28, 1, 1);
        x.black();
        Check.due("use 0 as before", x.formOf(0), 1);
        Check.due("use 1 lays a copy now", x.formOf(1), 2);
        RedactCheck y = new RedactCheck();
        for (int i = 0; i < 20; i++) {
            y.form();
        }
        for (int i = 0; i < 12; i++) {
            y.use(0, 19 - i, 0, 0);
        }
        for (int i = 0; i < 12; i++) {
            Check.due("use " + i + " of 12", y.formOf(i), 19 - i);
        }
    }

    private static void formOfNoUse() {
        Check.refused("none yet", Check.INDEX, () -> new RedactCheck().formOf(0));
        for (int use : new int[] {-1, 2, 11, 12, LEAST, GREATEST}) {
            Check.refusedForNothing("use " + use, Check.INDEX, TellingTest::some, o -> o.formOf(use));
        }
    }

    private static void noNumbers(int what, int behindTheLast) {
        for (int number : new int[] {-1, behindTheLast, LEAST, GREATEST}) {
            Check.refusedForNothing("number " + number, Check.INDEX, TellingTest::some, o -> o.many(what, number));
        }
    }

    private static void manyOfPages() {
        int[] due = {1, 0, 0, 2};
        for (int page = 0; page < 4; page++) {
            Check.due("page " + page, some().many(0, page), due[page]);
        }
        noNumbers(0, 4);
    }

    private static void manyOfForms() {
        Check.due("form 0", some().many(1, 0), 1);
        Check.due("form 1", some().many(1, 1), 3);
        noNumbers(1, 2);
        Check.refused("none yet", Check.INDEX, () -> new RedactCheck().many(1, 0));
    }

    private static void manyOfStores() {
        Check.due("store 0", some().many(2, 0), 1);
        Check.due("store 1", some().many(2, 1), 4);
        noNumbers(2, 2);
        Check.refused("none yet", Check.INDEX, () -> new RedactCheck().many(2, 0));
    }

    private static void manyOfWords() {
        Check.due("word 0", some().many(3, 0), 1);
        Check.due("word 1", some().many(3, 1), 8);
        noNumbers(3, 2);
        Check.refused("none yet", Check.INDEX, () -> new RedactCheck().many(3, 0));
        RedactCheck x = some();
        Check.due("one without codes", x.many(3, x.word()), 0);
    }

    private static void manyWhat() {
        for (int what : new int[] {-1, 4, 5, LEAST, GREATEST}) {
            Check.refusedForNothing("what " + what, Check.INDEX, TellingTest::some, o -> o.many(what, 0));
        }
    }

    private static void told() {
        RedactCheck x = new RedactCheck();
        for (int what = 0; what < 6; what++) {
            Check.due("of a new object, what " + what, x.told(what), 0);
        }
        x.form();
        for (int i = 0; i < 2; i++) {
            x.use(0, 0, 0, 0);
        }
        for (int i = 0; i < 3; i++) {
            Check.word(x, "a");
        }
        for (int i = 0; i < 4; i++) {
            x.area(0, 0, 0, 0, 0);
        }
        for (int i = 0; i < 5; i++) {
            x.store(0);
        }
        Check.signs(x, 0, 0, 0, "aa");
        Check.due("before a looking through", x.told(5), 0);
        x.look();
        for (int what = 0; what < 6; what++) {
            Check.due("what " + what, x.told(what), what + 1);
        }
    }

    private static void toldAtTheMost() {
        RedactCheck x = new RedactCheck();
        for (int i = 0; i < 30; i++) {
            Check.told(x::form);
            Check.told(() -> x.use(0, 0, 0, 0));
            Check.told(x::word);
            Check.told(() -> x.letter(0, 'a'));
            Check.told(() -> x.area(0, 0, 0, 0, 0));
            Check.told(() -> x.store(0));
        }
        for (int i = 0; i < 40; i++) {
            x.sign(0, 'a', 0, 0, 1);
            x.sign(1, 'a', 0, 0, 1);
            x.sign(2, 'a', 0, 0, 1);
            x.sign(3, 'a', 0, 0, 1);
        }
        x.look();
        int[] due = {20, 12, 4, 8, 8, 100};
        for (int what = 0; what < 6; what++) {
            Check.due("what " + what, x.told(what), due[what]);
        }
    }

    private static void toldOthers() {
        for (int what : new int[] {-1, 6, 7, LEAST, GREATEST}) {
            Check.due("of a new object, what " + what, new RedactCheck().told(what), RedactCheck.NONE);
            Check.due("what " + what, some().told(what), RedactCheck.NONE);
        }
    }
}
