/** Promise 11: blacking out. */
public final class BlackTest {
    private BlackTest() {
    }

    public static void main(String[] args) {
        wordsOnPages();
        wordsThatOverlap();
        wordsOfOtherRows();
        areasTouchByOneDot();
        areasOfNoDots();
        areasOfOtherPages();
        gapsStayAndPart();
        areaAndWordTogether();
        usesGetCopies();
        sameMarksShareACopy();
        differentMarksDoNot();
        equalFormsDoNotShare();
        laterBlackingOutDoesNotShare();
        areasMeetUsesWhereTheyLie();
        tooManyForms();
        copiesThatJustFit();
        storesOfEachEncoding();
        storesNotWell();
        digitsAreWrittenAgain();
        greatCodesStay();
        fullRows();
        leftStaysAsItWas();
        Check.end();
    }

    private static void wordsOnPages() {
        RedactCheck x = new RedactCheck();
        Check.signs(x, 0, 0, 7, "xabyab");
        Check.signs(x, 3, 5, 8, "ab");
        Check.word(x, "ab");
        Check.due("black", x.black(), 6);
        Check.same("page 0", Check.row(x, 0, 0), "120@0,7+10 0@10,7+100 121@30,7+10 0@40,7+100");
        Check.same("page 3", Check.row(x, 0, 3), "0@5,8+100");
        Check.due("black again", x.black(), 0);
        Check.due("a sign behind the gap", x.sign(3, 97, 1, 1, 1), 2);
    }

    private static void wordsThatOverlap() {
        RedactCheck x = new RedactCheck();
        Check.signs(x, 0, 0, 0, "banana");
        Check.signs(x, 1, 0, 0, "abcd");
        Check.signs(x, 2, 0, 0, "abab");
        Check.word(x, "ana");
        Check.word(x, "abc");
        Check.word(x, "cd");
        Check.word(x, "ab");
        Check.due("black", x.black(), 5 + 4 + 4);
        Check.same("a word over itself", Check.row(x, 0, 0), "98@0,0+10 0@10,0+100");
        Check.same("two words over one another", Check.row(x, 0, 1), "0@0,0+100");
        Check.same("two words side by side are one run", Check.row(x, 0, 2), "0@0,0+100");
    }

    private static void wordsOfOtherRows() {
        RedactCheck x = new RedactCheck();
        Check.signs(x, 0, 0, 0, "a");
        Check.signs(x, 1, 0, 0, "b");
        x.word();
        Check.word(x, "ab");
        Check.due("a word does not run over pages, one of no codes stands nowhere", x.black(), 0);
        Check.same("page 0", Check.row(x, 0, 0), "97@0,0+10");
    }

    private static void areasTouchByOneDot() {
        // The sign covers 100 .. 107 and 200 .. 209.
        Check.due("left of it", blackedByArea(90, 205, 10, 1), 0);
        Check.due("its left edge", blackedByArea(90, 205, 11, 1), 1);
        Check.due("its right edge", blackedByArea(107, 205, 1, 1), 1);
        Check.due("right of it", blackedByArea(108, 205, 50, 1), 0);
        Check.due("above it", blackedByArea(100, 190, 5, 10), 0);
        Check.due("its upper edge", blackedByArea(100, 190, 5, 11), 1);
        Check.due("its lower edge", blackedByArea(100, 209, 5, 1), 1);
        Check.due("below it", blackedByArea(100, 210, 5, 100), 0);
        Check.due("within it", blackedByArea(103, 203, 1, 1), 1);
        Check.due("all around it", blackedByArea(-999, -999, 1999, 1999), 1);
        Check.due("only the column", blackedByArea(100, 0, 8, 100), 0);
    }

    private static int blackedByArea(int atX, int atY, int wide, int high) {
        RedactCheck x = new RedactCheck();
        x.sign(2, 65, 100, 200, 8);
        x.area(2, atX, atY, wide, high);
        int gone = x.black();
        Check.same("the page", Check.row(x, 0, 2), gone == 1 ? "0@100,200+100" : "65@100,200+8");
        return gone;
    }

    private static void areasOfNoDots() {
        Check.due("0 wide", blackedByArea(103, 200, 0, 10), 0);
        Check.due("0 high", blackedByArea(100, 205, 8, 0), 0);
        Check.due("neither", blackedByArea(103, 205, 0, 0), 0);
    }

    private static void areasOfOtherPages() {
        RedactCheck x = new RedactCheck();
        Check.signs(x, 0, 0, 0, "a");
        Check.signs(x, 1, 0, 0, "a");
        x.area(1, 0, 0, 5, 5);
        Check.due("black", x.black(), 1);
        Check.same("page 0", Check.row(x, 0, 0), "97@0,0+10");
        Check.same("page 1", Check.row(x, 0, 1), "0@0,0+100");
    }

    private static void gapsStayAndPart() {
        RedactCheck x = new RedactCheck();
        Check.signs(x, 0, 0, 0, "abc");
        int word = Check.word(x, "b");
        Check.due("black", x.black(), 1);
        Check.word(x, "ac");
        Check.due("a word does not reach over a gap", x.black(), 0);
        x.area(0, 0, 0, 1999, 1999);
        Check.due("gaps are never marked", x.black(), 2);
        Check.same("nor do they melt", Check.row(x, 0, 0), "0@0,0+100 0@10,0+100 0@20,0+100");
        Check.due("nothing more", x.black(), 0);
        Check.due("the word", word, 0);
    }

    private static void areaAndWordTogether() {
        RedactCheck x = new RedactCheck();
        Check.signs(x, 0, 0, 0, "abcd");
        Check.word(x, "bc");
        x.area(0, 20, 0, 11, 1);
        x.area(0, 22, 0, 11, 1);
        Check.due("each sign went once", x.black(), 3);
        Check.same("the page", Check.row(x, 0, 0), "97@0,0+10 0@10,0+100");
    }

    private static void usesGetCopies() {
        RedactCheck x = new RedactCheck();
        int form = Check.form(x, 3, 4, "abc");
        int other = Check.form(x, 3, 4, "xyz");
        x.use(0, form, 500, 600);
        x.use(0, other, 500, 600);
        Check.form(x, 0, 0, "bb");
        Check.word(x, "b");
        Check.due("a form that no use lays is left alone", x.black(), 1);
        Check.due("one form more", x.told(0), 4);
        Check.due("the use lays the copy", x.formOf(0), 3);
        Check.due("the other lays its form", x.formOf(1), other);
        Check.same("the form stays", Check.row(x, 1, 0), "97@3,4+10 98@13,4+10 99@23,4+10");
        Check.same("the copy is cut, in the form's places", Check.row(x, 1, 3), "97@3,4+10 0@13,4+100 99@23,4+10");
        Check.same("unlaid form stays", Check.row(x, 1, 2), "98@0,0+10 98@10,0+10");
        Check.due("black again", x.black(), 0);
        Check.due("no form more", x.told(0), 4);
    }

    private static void sameMarksShareACopy() {
        RedactCheck x = new RedactCheck();
        int form = Check.form(x, 0, 0, "abc");
        x.use(0, form, 0, 0);
        x.use(1, form, 100, 0);
        x.use(2, form, 0, 0);
        Check.word(x, "b");
        x.area(1, 100, 0, 1, 1);
        x.area(3, 0, 0, 1, 1);
        Check.due("each use counts", x.black(), 1 + 2 + 1);
        Check.due("two copies", x.told(0), 3);
        Check.due("use 0", x.formOf(0), 1);
        Check.due("use 1", x.formOf(1), 2);
        Check.due("use 2 shares with use 0", x.formOf(2), 1);
    }

    private static void differentMarksDoNot() {
        RedactCheck x = new RedactCheck();
        int form = Check.form(x, 0, 0, "aaa");
        x.use(0, form, 0, 0);
        x.use(1, form, 0, 0);
        x.use(2, form, 0, 0);
        x.area(0, 0, 0, 15, 1);
        x.area(1, 15, 0, 10, 1);
        Check.due("as many, but others", x.black(), 4);
        Check.due("use 0", x.formOf(0), 1);
        Check.due("use 1", x.formOf(1), 2);
        Check.due("use 2 has none marked", x.formOf(2), 0);
        Check.same("copy 1", Check.row(x, 1, 1), "0@0,0+100 97@20,0+10");
        Check.same("copy 2", Check.row(x, 1, 2), "97@0,0+10 0@10,0+100");
    }

    private static void equalFormsDoNotShare() {
        RedactCheck x = new RedactCheck();
        x.use(0, Check.form(x, 0, 0, "a"), 0, 0);
        x.use(0, Check.form(x, 0, 0, "a"), 0, 0);
        Check.word(x, "a");
        Check.due("black", x.black(), 2);
        Check.due("use 0", x.formOf(0), 2);
        Check.due("use 1", x.formOf(1), 3);
    }

    private static void laterBlackingOutDoesNotShare() {
        RedactCheck x = new RedactCheck();
        int form = Check.form(x, 0, 0, "ab");
        x.use(0, form, 0, 0);
        Check.word(x, "a");
        x.black();
        x.use(0, form, 0, 0);
        Check.due("black", x.black(), 1);
        Check.due("use 0 keeps its copy", x.formOf(0), 1);
        Check.due("use 1 gets a new one", x.formOf(1), 2);
        Check.word(x, "b");
        Check.due("copies are cut again", x.black(), 2);
        Check.due("use 0", x.formOf(0), 3);
        Check.due("use 1", x.formOf(1), 4);
        Check.same("a copy of the copy", Check.row(x, 1, 3), "0@0,0+100 0@10,0+100");
        Check.same("the copy stays", Check.row(x, 1, 1), "0@0,0+100 98@10,0+10");
    }

    private static void areasMeetUsesWhereTheyLie() {
        RedactCheck x = new RedactCheck();
        int form = x.form();
        x.formSign(form, 65, 999, 999, 50);
        x.use(0, form, -999, -999);
        x.use(1, form, 999, 999);
        x.use(2, form, -999, 0);
        x.area(0, 49, 9, 1, 1);
        x.area(1, 999, 999, 1050, 1000);
        x.area(2, 0, 0, 1, 999);
        Check.due("use 0 is met by one dot, use 1 by the greatest area, use 2 not", x.black(), 2);
        Check.due("use 0 and 1 have the same sign marked", x.formOf(0), 1);
        Check.due("so they share", x.formOf(1), 1);
        Check.due("use 2", x.formOf(2), 0);
    }

    private static void tooManyForms() {
        RedactCheck x = new RedactCheck();
        int form = Check.form(x, 0, 0, "aB");
        for (int i = 1; i < 19; i++) {
            x.form();
        }
        x.use(0, form, 0, 0);
        x.use(1, form, 0, 0);
        Check.word(x, "a");
        Check.signs(x, 0, 0, 0, "ab");
        Check.store(x, 3, Check.bytes("6a61"));
        Check.store(x, 3, Check.bytes("6a6"));
        x.area(1, 10, 0, 1, 1);
        x.look();
        String before = Check.whole(x);
        Check.refused("21 forms", Check.UNSUPPORTED, x::black);
        Check.same("nothing changes", Check.whole(x), before);
        x.form();
        Check.refused("22 forms", Check.UNSUPPORTED, x::black);
        Check.due("nor are there more", x.told(0), 20);
    }

    private static void copiesThatJustFit() {
        RedactCheck x = new RedactCheck();
        int form = Check.form(x, 0, 0, "aB");
        for (int i = 1; i < 19; i++) {
            x.form();
        }
        for (int i = 0; i < 12; i++) {
            x.use(i % 4, form, 10 * i, 0);
        }
        Check.word(x, "a");
        Check.due("twelve uses share the twentieth form", x.black(), 12);
        Check.due("forms", x.told(0), 20);
        for (int i = 0; i < 12; i++) {
            Check.due("use " + i, x.formOf(i), 19);
        }
        Check.due("with 20 forms and nothing marked", x.black(), 0);
    }

    private static void storesOfEachEncoding() {
        RedactCheck x = new RedactCheck();
        Check.word(x, "ab");
        Check.word(x, "bc");
        Check.store(x, 0, Check.bytes("xabcyab"));
        Check.store(x, 1, 0, 'x', 0, 'a', 0, 'b', 0, 'a', 0, 'b', 0, 'y');
        Check.store(x, 2, 'a', 0, 'b', 0, 'z', 0);
        Check.store(x, 3, Check.bytes("616263ff2A"));
        Check.due("black", x.black(), 5 + 4 + 2 + 3);
        Check.same("store 0", Check.bytesOf(x, 0), "120 42 121 42");
        Check.same("store 1", Check.bytesOf(x, 1), "0 120 0 42 0 121");
        Check.same("store 2", Check.bytesOf(x, 2), "42 0 122 0");
        Check.same("store 3", Check.bytesOf(x, 3), "50 65 70 70 50 65");
        Check.due("black again", x.black(), 0);
        Check.due("only its own encoding is cut", Check.store(x, 0, 0, 'a', 0, 'b'), 4);
        Check.due("so nothing went", x.black(), 0);
        Check.same("store 4", Check.bytesOf(x, 4), "0 97 0 98");
        Check.due("bytes behind the cut ones", x.octet(2, (byte) 9), 5);
        Check.same("store 2 with one more", Check.bytesOf(x, 2), "42 0 122 0 9");
    }

    private static void storesNotWell() {
        RedactCheck x = new RedactCheck();
        Check.word(x, "a");
        Check.store(x, 1, 0, 'a', 0);
        Check.store(x, 1, 0, 'a', 1, 'a');
        Check.store(x, 2, 'a', 0, 'a');
        Check.store(x, 2, 'a', 0, 'a', 1);
        Check.store(x, 3, Check.bytes("616"));
        Check.store(x, 3, Check.bytes("616G"));
        Check.store(x, 3, Check.bytes("61@1"));
        Check.store(x, 2);
        Check.due("none of them counts", x.black(), 0);
        for (int i = 0; i < 8; i++) {
            Check.due("store " + i + " is empty", x.many(2, i), 0);
        }
    }

    private static void digitsAreWrittenAgain() {
        RedactCheck x = new RedactCheck();
        Check.store(x, 3, Check.bytes("afAF09"));
        Check.store(x, 3, Check.bytes("61/1"));
        Check.store(x, 3, Check.bytes("6:"));
        Check.store(x, 3, Check.bytes("6`"));
        Check.store(x, 3, Check.bytes("g6"));
        Check.due("black", x.black(), 0);
        Check.same("digits", Check.bytesOf(x, 0), "65 70 65 70 48 57");
        for (int i = 1; i < 5; i++) {
            Check.due("no digits", x.many(2, i), 0);
        }
    }

    private static void greatCodesStay() {
        RedactCheck x = new RedactCheck();
        Check.word(x, "a");
        Check.store(x, 0, 255, 'a', 128, 0, 'a' + 128);
        Check.store(x, 1, 0, 255, 0, 'a', 0, 0);
        Check.store(x, 2, 200, 0, 'a', 0);
        Check.due("black", x.black(), 3);
        Check.same("store 0", Check.bytesOf(x, 0), "-1 42 -128 0 -31");
        Check.same("store 1", Check.bytesOf(x, 1), "0 -1 0 42 0 0");
        Check.same("store 2", Check.bytesOf(x, 2), "-56 0 42 0");
    }

    private static void fullRows() {
        RedactCheck x = new RedactCheck();
        Check.word(x, "a");
        Check.signs(x, 0, 0, 0, "b".repeat(39) + "a");
        Check.signs(x, 1, 0, 0, "a".repeat(40));
        Check.store(x, 0, Check.bytes("b".repeat(59) + "a"));
        Check.store(x, 0, Check.bytes("a".repeat(60)));
        Check.due("black", x.black(), 1 + 40 + 1 + 60);
        Check.due("page 0 is as long", x.many(0, 0), 40);
        Check.due("its last is a gap", x.at(0, 0, 39, 0), 0);
        Check.same("page 1", Check.row(x, 0, 1), "0@0,0+100");
        Check.due("store 0's last", x.byteOf(0, 59), 42);
        Check.same("store 1", Check.bytesOf(x, 1), "42");
    }

    private static void leftStaysAsItWas() {
        RedactCheck x = new RedactCheck();
        Check.signs(x, 0, 0, 0, "a");
        Check.word(x, "a");
        x.look();
        x.black();
        Check.due("places left are those of the latest look", x.told(5), 1);
        Check.same("and so is what they tell", Check.leftAt(x, 0), "0 0 0 0 -1");
    }
}
