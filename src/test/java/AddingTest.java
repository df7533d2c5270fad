/** Promises 1 to 10: a new object, and the calls that add; a test for each sentence. RefusalsTest mixes their numbers. */
public final class AddingTest {
    private static final int LEAST = Integer.MIN_VALUE;
    private static final int GREATEST = Integer.MAX_VALUE;

    private AddingTest() {
    }

    public static void main(String[] args) {
        Check.sentence("1: four pages without signs", AddingTest::pagesOfANewObject);
        Check.sentence("1: no FORMS, USES, WORDS, AREAS, STORES", AddingTest::nothingOfANewObject);
        Check.sentence("1: nothing is LEFT", AddingTest::nothingLeftOfANewObject);
        Check.sentence("1: each object has its own", AddingTest::objectsShareNothing);
        Check.sentence("2: a sign behind the others of a page: how many it has", AddingTest::signs);
        Check.sentence("2: no such page", AddingTest::signPage);
        Check.sentence("2: code is not 33 .. 126", AddingTest::signCode);
        Check.sentence("2: x or y not 0 .. 999", AddingTest::signPlace);
        Check.sentence("2: width not 1 .. 50", AddingTest::signWidth);
        Check.sentence("2: 40 signs of a page at most", AddingTest::signsOfAFullPage);
        Check.sentence("3: a FORM without signs: its number", AddingTest::forms);
        Check.sentence("3: 20 FORMS at most", AddingTest::formsWithoutRoom);
        Check.sentence("3: also those that are COPIES", AddingTest::copiesAreForms);
        Check.sentence("4: a sign behind the others of a FORM: how many it has", AddingTest::formSigns);
        Check.sentence("4: no such FORM", AddingTest::formSignForm);
        Check.sentence("4: as sign(): code", AddingTest::formSignCode);
        Check.sentence("4: as sign(): x and y", AddingTest::formSignPlace);
        Check.sentence("4: as sign(): width", AddingTest::formSignWidth);
        Check.sentence("4: 40 signs of a FORM at most", AddingTest::signsOfAFullForm);
        Check.sentence("4: a COPY takes signs, 40 at most", AddingTest::signsOfACopy);
        Check.sentence("5: a USE: its number", AddingTest::uses);
        Check.sentence("5: no such page", AddingTest::usePage);
        Check.sentence("5: no such FORM", AddingTest::useForm);
        Check.sentence("5: dx or dy is not -999 .. 999", AddingTest::useFarther);
        Check.sentence("5: 12 USES at most", AddingTest::usesWithoutRoom);
        Check.sentence("6: a WORD without codes: its number", AddingTest::words);
        Check.sentence("6: 4 WORDS at most", AddingTest::wordsWithoutRoom);
        Check.sentence("7: a code behind those of a WORD: how many it has", AddingTest::letters);
        Check.sentence("7: no such WORD", AddingTest::letterWord);
        Check.sentence("7: it is not 33 .. 126, or is 42", AddingTest::letterCode);
        Check.sentence("7: when it has 8", AddingTest::lettersWithoutRoom);
        Check.sentence("8: an AREA: how many there are", AddingTest::areas);
        Check.sentence("8: no such page", AddingTest::areaPage);
        Check.sentence("8: x or y is not -999 .. 999", AddingTest::areaPlace);
        Check.sentence("8: wide or high not 0 .. 1999", AddingTest::areaSize);
        Check.sentence("8: 8 AREAS at most", AddingTest::areasWithoutRoom);
        Check.sentence("9: a STORE without bytes: its number", AddingTest::stores);
        Check.sentence("9: encoding is not 0 .. 3", AddingTest::storeEncoding);
        Check.sentence("9: 8 STORES at most", AddingTest::storesWithoutRoom);
        Check.sentence("10: a byte behind those of a STORE: how many it has", AddingTest::octets);
        Check.sentence("10: no such STORE", AddingTest::octetStore);
        Check.sentence("10: 60 bytes at most", AddingTest::octetsWithoutRoom);
        Check.end();
    }

    private static void pagesOfANewObject() {
        RedactCheck x = new RedactCheck();
        for (int page = 0; page < 4; page++) {
            int number = page;
            Check.due("signs of page " + page, x.many(0, page), 0);
            Check.refused("sign 0 of page " + page, Check.INDEX, () -> x.at(0, number, 0, 0));
        }
        Check.refused("a page before the first", Check.INDEX, () -> x.many(0, -1));
        Check.refused("a fifth page", Check.INDEX, () -> x.many(0, 4));
    }

    private static void nothingOfANewObject() {
        RedactCheck x = new RedactCheck();
        for (int what = 0; what < 5; what++) {
            Check.due("told " + what, x.told(what), 0);
        }
        Check.refused("form 0", Check.INDEX, () -> x.many(1, 0));
        Check.refused("store 0", Check.INDEX, () -> x.many(2, 0));
        Check.refused("word 0", Check.INDEX, () -> x.many(3, 0));
        Check.refused("use 0", Check.INDEX, () -> x.formOf(0));
    }

    private static void nothingLeftOfANewObject() {
        RedactCheck x = new RedactCheck();
        Check.due("told", x.told(5), 0);
        Check.refused("place 0", Check.INDEX, () -> x.left(0, 0));
        Check.due("look", x.look(), 0);
    }

    private static void objectsShareNothing() {
        RedactCheck x = new RedactCheck();
        RedactCheck y = new RedactCheck();
        Check.signs(y, 0, 0, 0, "a");
        y.use(0, y.form(), 0, 0);
        Check.word(y, "a");
        y.area(0, 0, 0, 1, 1);
        y.store(0);
        y.look();
        Check.same("the other one", Check.whole(x), Check.whole(new RedactCheck()));
    }

    private static void signs() {
        RedactCheck x = new RedactCheck();
        Check.due("the first", x.sign(0, 65, 5, 6, 7), 1);
        Check.due("the second", x.sign(0, 42, 1, 2, 3), 2);
        Check.due("of the last page", x.sign(3, 66, 4, 5, 6), 1);
        Check.same("page 0", Check.row(x, 0, 0), "65@5,6+7 42@1,2+3");
        Check.same("page 3", Check.row(x, 0, 3), "66@4,5+6");
        Check.due("signs of page 1", x.many(0, 1), 0);
        Check.due("signs of page 2", x.many(0, 2), 0);
    }

    private static RedactCheck withAForm() {
        RedactCheck x = new RedactCheck();
        x.form();
        return x;
    }

    private static void signPage() {
        RedactCheck x = new RedactCheck();
        for (int page : new int[] {-1, 4, LEAST, GREATEST}) {
            Check.refusedForNothing("page " + page, Check.INDEX, RedactCheck::new, o -> o.sign(page, 65, 0, 0, 1));
        }
        for (int page = 0; page < 4; page++) {
            Check.due("page " + page, x.sign(page, 65, 0, 0, 1), 1);
        }
    }

    private static long add(RedactCheck x, int of, int code, int atX, int atY, int width) {
        return of == 0 ? x.sign(0, code, atX, atY, width) : x.formSign(0, code, atX, atY, width);
    }

    private static void codes(int of) {
        for (int code : new int[] {32, 127, 0, -1, 33 + 256, 33 + 65536, LEAST, GREATEST}) {
            Check.refusedForNothing("code " + code, Check.ARGUMENT, AddingTest::withAForm, o -> add(o, of, code, 0, 0, 1));
        }
        RedactCheck x = withAForm();
        int[] fine = {33, 126, 34, 125, 42};
        for (int i = 0; i < fine.length; i++) {
            Check.due("code " + fine[i], add(x, of, fine[i], 0, 0, 1), i + 1);
            Check.due("what is there of it", x.at(of, 0, i, 0), fine[i]);
        }
    }

    private static void places(int of) {
        for (int place : new int[] {-1, 1000, LEAST, GREATEST}) {
            Check.refusedForNothing("x " + place, Check.ARGUMENT, AddingTest::withAForm, o -> add(o, of, 65, place, 0, 1));
            Check.refusedForNothing("y " + place, Check.ARGUMENT, AddingTest::withAForm, o -> add(o, of, 65, 0, place, 1));
        }
        RedactCheck x = withAForm();
        Check.due("both least", add(x, of, 65, 0, 0, 1), 1);
        Check.due("x greatest", add(x, of, 65, 999, 0, 1), 2);
        Check.due("y greatest", add(x, of, 65, 0, 999, 1), 3);
        Check.due("both greatest", add(x, of, 65, 999, 999, 50), 4);
        Check.same("what is there", Check.row(x, of, 0), "65@0,0+1 65@999,0+1 65@0,999+1 65@999,999+50");
    }

    private static void widths(int of) {
        for (int width : new int[] {0, 51, 100, -1, LEAST, GREATEST}) {
            Check.refusedForNothing("width " + width, Check.ARGUMENT, AddingTest::withAForm, o -> add(o, of, 65, 0, 0, width));
        }
        RedactCheck x = withAForm();
        Check.due("least", add(x, of, 65, 0, 0, 1), 1);
        Check.due("greatest", add(x, of, 65, 0, 0, 50), 2);
        Check.same("what is there", Check.row(x, of, 0), "65@0,0+1 65@0,0+50");
    }

    private static void signCode() {
        codes(0);
    }

    private static void signPlace() {
        places(0);
    }

    private static void signWidth() {
        widths(0);
    }

    private static void signsOfAFullPage() {
        RedactCheck x = new RedactCheck();
        for (int i = 1; i <= 40; i++) {
            Check.due("sign " + i, x.sign(2, 65, i, 0, 1), i);
        }
        Check.refused("the 41st", Check.UNSUPPORTED, () -> x.sign(2, 66, 0, 0, 1));
        Check.due("signs", x.many(0, 2), 40);
        Check.due("the last one's x", x.at(0, 2, 39, 1), 40);
        Check.refused("what the 41st left", Check.INDEX, () -> x.at(0, 2, 40, 0));
        Check.due("another page has room", x.sign(3, 65, 0, 0, 1), 1);
        x.area(2, 1, 0, 2, 1);
        Check.due("two go", x.black(), 2);
        Check.due("so there is room for one", x.sign(2, 67, 0, 0, 1), 40);
        Check.refused("and no more", Check.UNSUPPORTED, () -> x.sign(2, 67, 0, 0, 1));
    }

    private static void forms() {
        RedactCheck x = new RedactCheck();
        for (int i = 0; i < 20; i++) {
            Check.due("form", x.form(), i);
            Check.due("its signs", x.many(1, i), 0);
            Check.due("forms", x.told(0), i + 1);
        }
    }

    private static RedactCheck withForms(int count) {
        RedactCheck x = new RedactCheck();
        for (int i = 0; i < count; i++) {
            x.form();
        }
        return x;
    }

    private static void formsWithoutRoom() {
        Check.due("the 20th", withForms(19).form(), 19);
        Check.refusedForNothing("the 21st", Check.UNSUPPORTED, () -> withForms(20), RedactCheck::form);
    }

    private static void copiesAreForms() {
        RedactCheck x = new RedactCheck();
        x.use(0, Check.form(x, 0, 0, "a"), 0, 0);
        Check.word(x, "a");
        x.black();
        Check.due("a copy takes a number", x.form(), 2);
        for (int i = 3; i < 20; i++) {
            Check.due("form", x.form(), i);
        }
        Check.refused("a copy takes a place", Check.UNSUPPORTED, x::form);
        Check.due("forms", x.told(0), 20);
    }

    private static void formSigns() {
        RedactCheck x = withForms(3);
        Check.due("the first", x.formSign(1, 65, 5, 6, 7), 1);
        Check.due("the second", x.formSign(1, 42, 1, 2, 3), 2);
        Check.due("of the last form", x.formSign(2, 66, 4, 5, 6), 1);
        Check.same("form 1", Check.row(x, 1, 1), "65@5,6+7 42@1,2+3");
        Check.same("form 2", Check.row(x, 1, 2), "66@4,5+6");
        Check.due("signs of form 0", x.many(1, 0), 0);
        Check.due("signs of page 1", x.many(0, 1), 0);
    }

    private static void formSignForm() {
        for (int form : new int[] {-1, 0, 1, LEAST, GREATEST}) {
            Check.refusedForNothing("none yet, form " + form, Check.INDEX, RedactCheck::new, o -> o.formSign(form, 65, 0, 0, 1));
        }
        for (int form : new int[] {-1, 20, LEAST, GREATEST}) {
            Check.refusedForNothing("of 20, form " + form, Check.INDEX, () -> withForms(20), o -> o.formSign(form, 65, 0, 0, 1));
        }
        Check.refusedForNothing("behind the last", Check.INDEX, () -> withForms(2), o -> o.formSign(2, 65, 0, 0, 1));
        Check.due("form 0", withForms(20).formSign(0, 65, 0, 0, 1), 1);
        Check.due("form 19", withForms(20).formSign(19, 65, 0, 0, 1), 1);
    }

    private static void formSignCode() {
        codes(1);
    }

    private static void formSignPlace() {
        places(1);
    }

    private static void formSignWidth() {
        widths(1);
    }

    private static void signsOfAFullForm() {
        RedactCheck x = withForms(2);
        for (int i = 1; i <= 40; i++) {
            Check.due("sign " + i, x.formSign(1, 65, i, 0, 1), i);
        }
        Check.refused("the 41st", Check.UNSUPPORTED, () -> x.formSign(1, 66, 0, 0, 1));
        Check.due("signs", x.many(1, 1), 40);
        Check.refused("what the 41st left", Check.INDEX, () -> x.at(1, 1, 40, 0));
        Check.due("another form has room", x.formSign(0, 65, 0, 0, 1), 1);
    }

    private static void signsOfACopy() {
        RedactCheck x = new RedactCheck();
        x.use(0, Check.form(x, 0, 0, "bb" + "a".repeat(38)), 0, 0);
        Check.word(x, "bb");
        x.black();
        Check.due("a copy with a gap for two", x.many(1, 1), 39);
        Check.due("has room for one", x.formSign(1, 99, 7, 8, 9), 40);
        Check.due("which is behind the others", x.at(1, 1, 39, 0), 99);
        Check.refused("and no more", Check.UNSUPPORTED, () -> x.formSign(1, 99, 7, 8, 9));
        Check.refused("its form has none", Check.UNSUPPORTED, () -> x.formSign(0, 99, 7, 8, 9));
        Check.due("its form's last", x.at(1, 0, 39, 0), 97);
    }

    private static void uses() {
        RedactCheck x = withForms(2);
        Check.due("the first", x.use(0, 1, 0, 0), 0);
        Check.due("the second", x.use(3, 0, 0, 0), 1);
        Check.due("the same once more", x.use(3, 0, 0, 0), 2);
        Check.due("form of the first", x.formOf(0), 1);
        Check.due("form of the second", x.formOf(1), 0);
        Check.due("form of the third", x.formOf(2), 0);
        Check.due("uses", x.told(1), 3);
        Check.due("no form more", x.told(0), 2);
    }

    private static void usePage() {
        for (int page : new int[] {-1, 4, LEAST, GREATEST}) {
            Check.refusedForNothing("page " + page, Check.INDEX, AddingTest::withAForm, o -> o.use(page, 0, 0, 0));
        }
        RedactCheck x = withAForm();
        for (int page = 0; page < 4; page++) {
            Check.due("page " + page, x.use(page, 0, 0, 0), page);
        }
    }

    private static void useForm() {
        for (int form : new int[] {-1, 0, LEAST, GREATEST}) {
            Check.refusedForNothing("none yet, form " + form, Check.INDEX, RedactCheck::new, o -> o.use(0, form, 0, 0));
        }
        for (int form : new int[] {-1, 20, LEAST, GREATEST}) {
            Check.refusedForNothing("of 20, form " + form, Check.INDEX, () -> withForms(20), o -> o.use(0, form, 0, 0));
        }
        Check.refusedForNothing("behind the last", Check.INDEX, () -> withForms(2), o -> o.use(0, 2, 0, 0));
        RedactCheck x = withForms(20);
        Check.due("form 19", x.use(0, 19, 0, 0), 0);
        Check.due("it is laid", x.formOf(0), 19);
    }

    private static void useFarther() {
        for (int far : new int[] {-1000, 1000, LEAST, GREATEST}) {
            Check.refusedForNothing("dx " + far, Check.ARGUMENT, AddingTest::withAForm, o -> o.use(0, 0, far, 0));
            Check.refusedForNothing("dy " + far, Check.ARGUMENT, AddingTest::withAForm, o -> o.use(0, 0, 0, far));
        }
        RedactCheck x = withAForm();
        Check.due("dx least", x.use(0, 0, -999, 0), 0);
        Check.due("dx greatest", x.use(0, 0, 999, 0), 1);
        Check.due("dy least", x.use(0, 0, 0, -999), 2);
        Check.due("dy greatest", x.use(0, 0, 0, 999), 3);
    }

    private static void usesWithoutRoom() {
        RedactCheck x = withForms(2);
        for (int i = 0; i < 12; i++) {
            Check.due("use", x.use(i % 4, 0, 0, 0), i);
        }
        Check.refused("the 13th", Check.UNSUPPORTED, () -> x.use(0, 1, 0, 0));
        Check.due("uses", x.told(1), 12);
        Check.due("the last one's form", x.formOf(11), 0);
        Check.refused("what the 13th left", Check.INDEX, () -> x.formOf(12));
    }

    private static void words() {
        RedactCheck x = new RedactCheck();
        for (int i = 0; i < 4; i++) {
            Check.due("word", x.word(), i);
            Check.due("its codes", x.many(3, i), 0);
            Check.due("words", x.told(2), i + 1);
        }
    }

    private static RedactCheck withWords(int count) {
        RedactCheck x = new RedactCheck();
        for (int i = 0; i < count; i++) {
            x.word();
        }
        return x;
    }

    private static void wordsWithoutRoom() {
        Check.due("the 4th", withWords(3).word(), 3);
        Check.refusedForNothing("the 5th", Check.UNSUPPORTED, () -> withWords(4), RedactCheck::word);
    }

    private static void letters() {
        RedactCheck x = withWords(2);
        Check.due("the first", x.letter(1, 97), 1);
        Check.due("the second", x.letter(1, 98), 2);
        Check.due("codes of word 0", x.many(3, 0), 0);
        Check.due("codes of word 1", x.many(3, 1), 2);
        Check.store(x, 0, 'b', 'a', 'b');
        Check.due("they stand one behind the other", x.look(), 1);
        Check.due("where they do", x.left(0, 2), 1);
    }

    private static void letterWord() {
        for (int word : new int[] {-1, 0, LEAST, GREATEST}) {
            Check.refusedForNothing("none yet, word " + word, Check.INDEX, RedactCheck::new, o -> o.letter(word, 65));
        }
        for (int word : new int[] {-1, 4, LEAST, GREATEST}) {
            Check.refusedForNothing("of 4, word " + word, Check.INDEX, () -> withWords(4), o -> o.letter(word, 65));
        }
        Check.refusedForNothing("behind the last", Check.INDEX, () -> withWords(2), o -> o.letter(2, 65));
        Check.due("word 0", withWords(4).letter(0, 65), 1);
        Check.due("word 3", withWords(4).letter(3, 65), 1);
    }

    private static void letterCode() {
        for (int code : new int[] {32, 127, 42, 0, -1, 42 + 256, 65 + 256, LEAST, GREATEST}) {
            Check.refusedForNothing("code " + code, Check.ARGUMENT, () -> withWords(1), o -> o.letter(0, code));
        }
        for (int code : new int[] {33, 126, 41, 43}) {
            RedactCheck x = withWords(1);
            Check.due("code " + code, x.letter(0, code), 1);
            x.sign(0, code, 0, 0, 1);
            Check.due("it stands", x.look(), 1);
        }
    }

    private static void lettersWithoutRoom() {
        RedactCheck x = withWords(2);
        for (int i = 1; i <= 8; i++) {
            Check.due("letter", x.letter(0, 96 + i), i);
        }
        Check.refused("the 9th", Check.UNSUPPORTED, () -> x.letter(0, 97));
        Check.due("codes", x.many(3, 0), 8);
        Check.due("another word has room", x.letter(1, 97), 1);
        Check.store(x, 0, Check.bytes("bcdefgh"));
        Check.due("7 of the 8 are not the word", x.look(), 0);
        Check.store(x, 0, Check.bytes("abcdefgh"));
        Check.due("the 8 are, and the other word", x.look(), 2);
    }

    private static void areas() {
        RedactCheck x = new RedactCheck();
        for (int i = 1; i <= 8; i++) {
            Check.due("area", x.area(i % 4, i, i, i, i), i);
            Check.due("areas", x.told(3), i);
        }
    }

    private static RedactCheck withASign() {
        RedactCheck x = new RedactCheck();
        x.sign(0, 65, 0, 0, 1);
        return x;
    }

    private static void areaPage() {
        for (int page : new int[] {-1, 4, LEAST, GREATEST}) {
            Check.refusedForNothing("page " + page, Check.INDEX, AddingTest::withASign, o -> o.area(page, 0, 0, 1, 1));
        }
        RedactCheck x = new RedactCheck();
        for (int page = 0; page < 4; page++) {
            Check.due("page " + page, x.area(page, 0, 0, 1, 1), page + 1);
        }
    }

    private static void areaPlace() {
        for (int place : new int[] {-1000, 1000, LEAST, GREATEST}) {
            Check.refusedForNothing("x " + place, Check.ARGUMENT, AddingTest::withASign, o -> o.area(0, place, 0, 1999, 1));
            Check.refusedForNothing("y " + place, Check.ARGUMENT, AddingTest::withASign, o -> o.area(0, 0, place, 1, 1999));
        }
        RedactCheck x = new RedactCheck();
        Check.due("x least", x.area(0, -999, 0, 1, 1), 1);
        Check.due("x greatest", x.area(0, 999, 0, 1, 1), 2);
        Check.due("y least", x.area(0, 0, -999, 1, 1), 3);
        Check.due("y greatest", x.area(0, 0, 999, 1, 1), 4);
    }

    private static void areaSize() {
        for (int far : new int[] {-1, 2000, LEAST, GREATEST}) {
            Check.refusedForNothing("wide " + far, Check.ARGUMENT, AddingTest::withASign, o -> o.area(0, 0, 0, far, 1));
            Check.refusedForNothing("high " + far, Check.ARGUMENT, AddingTest::withASign, o -> o.area(0, 0, 0, 1, far));
        }
        RedactCheck x = new RedactCheck();
        Check.due("wide least", x.area(0, 0, 0, 0, 1), 1);
        Check.due("wide greatest", x.area(0, 0, 0, 1999, 1), 2);
        Check.due("high least", x.area(0, 0, 0, 1, 0), 3);
        Check.due("high greatest", x.area(0, 0, 0, 1, 1999), 4);
    }

    private static void areasWithoutRoom() {
        RedactCheck x = withASign();
        for (int i = 1; i <= 8; i++) {
            Check.due("area", x.area(1, 0, 0, 1, 1), i);
        }
        Check.refused("the 9th", Check.UNSUPPORTED, () -> x.area(0, 0, 0, 1, 1));
        Check.due("areas", x.told(3), 8);
        Check.due("the 9th marks nothing", x.black(), 0);
    }

    private static void stores() {
        RedactCheck x = new RedactCheck();
        for (int i = 0; i < 8; i++) {
            Check.due("store", x.store(i % 4), i);
            Check.due("its bytes", x.many(2, i), 0);
            Check.due("stores", x.told(4), i + 1);
        }
    }

    private static void storeEncoding() {
        for (int encoding : new int[] {-1, 4, LEAST, GREATEST}) {
            Check.refusedForNothing("encoding " + encoding, Check.ARGUMENT, RedactCheck::new, o -> o.store(encoding));
        }
        RedactCheck x = new RedactCheck();
        for (int encoding = 0; encoding < 4; encoding++) {
            Check.due("encoding " + encoding, x.store(encoding), encoding);
        }
    }

    private static RedactCheck withStores(int count) {
        RedactCheck x = new RedactCheck();
        for (int i = 0; i < count; i++) {
            x.store(0);
        }
        return x;
    }

    private static void storesWithoutRoom() {
        Check.due("the 8th", withStores(7).store(3), 7);
        Check.refusedForNothing("the 9th", Check.UNSUPPORTED, () -> withStores(8), o -> o.store(0));
    }

    private static void octets() {
        RedactCheck x = withStores(2);
        int[] bytes = {0, 127, -128, -1, 65};
        for (int i = 0; i < bytes.length; i++) {
            Check.due("octet " + bytes[i], x.octet(1, (byte) bytes[i]), i + 1);
        }
        Check.same("the bytes", Check.bytesOf(x, 1), "0 127 -128 -1 65");
        Check.due("the other store's bytes", x.many(2, 0), 0);
    }

    private static void octetStore() {
        for (int store : new int[] {-1, 0, LEAST, GREATEST}) {
            Check.refusedForNothing("none yet, store " + store, Check.INDEX, RedactCheck::new, o -> o.octet(store, (byte) 1));
        }
        for (int store : new int[] {-1, 8, LEAST, GREATEST}) {
            Check.refusedForNothing("of 8, store " + store, Check.INDEX, () -> withStores(8), o -> o.octet(store, (byte) 1));
        }
        Check.refusedForNothing("behind the last", Check.INDEX, () -> withStores(2), o -> o.octet(2, (byte) 1));
        Check.due("store 0", withStores(8).octet(0, (byte) 1), 1);
        Check.due("store 7", withStores(8).octet(7, (byte) 1), 1);
    }

    private static void octetsWithoutRoom() {
        RedactCheck x = withStores(2);
        for (int i = 1; i <= 60; i++) {
            Check.due("octet", x.octet(0, (byte) (i < 59 ? i : 97)), i);
        }
        Check.refused("the 61st", Check.UNSUPPORTED, () -> x.octet(0, (byte) 98));
        Check.due("bytes", x.many(2, 0), 60);
        Check.due("the last one", x.byteOf(0, 59), 97);
        Check.refused("what the 61st left", Check.INDEX, () -> x.byteOf(0, 60));
        Check.due("another store has room", x.octet(1, (byte) 98), 1);
        Check.word(x, "aa");
        Check.due("two go: 97 stands at 58 and 59", x.black(), 2);
        Check.due("so there is room for one", x.octet(0, (byte) 98), 60);
        Check.refused("and no more", Check.UNSUPPORTED, () -> x.octet(0, (byte) 98));
    }
}
