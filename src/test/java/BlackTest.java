/** Promise 11, and what "Terms" says of blacking out; a test for each sentence. */
public final class BlackTest {
    private BlackTest() {
    }

    public static void main(String[] args) {
        nothingAndPages();
        uses();
        numbersOfForms();
        stores();
        Check.end();
    }

    private static void nothingAndPages() {
        Check.sentence("nothing to black out: none went, and all stays", BlackTest::nothingToBlackOut);
        Check.sentence("a second blacking out finds nothing", BlackTest::nothingASecondTime);
        Check.sentence("what went is no sign and no code any more", BlackTest::whatWentIsNotMarked);
        Check.sentence("all is marked first, then cut", BlackTest::markedBeforeCut);
        Check.sentence("a sign is MARKED, if it has a dot in common with an AREA", BlackTest::areasTouchByOneDot);
        Check.sentence("(one that is 0 wide or high has none)", BlackTest::areasOfNoDots);
        Check.sentence("an AREA of the page", BlackTest::areasOfOtherPages);
        Check.sentence("or is in a WORD that stands in the page's row", BlackTest::wordsOnPages);
        Check.sentence("a WORD that stands in the page's row, over others and itself", BlackTest::wordsThatOverlap);
        Check.sentence("the page's row, not two of them", BlackTest::wordsOfOtherRows);
        Check.sentence("both at once: a sign goes once", BlackTest::areaAndWordTogether);
        Check.sentence("GAPS are never MARKED", BlackTest::gapsStayAndPart);
        Check.sentence("a GAP stays where an AREA covers it alone", BlackTest::gapsUnderAreas);
        Check.sentence("each longest run becomes one GAP", BlackTest::runsAtTheEdges);
        Check.sentence("at the place of its first one", BlackTest::placeOfTheFirst);
        Check.sentence("pages' rows are cut, also full ones", BlackTest::fullRows);
        Check.sentence("every other sign goes", BlackTest::everyOtherSign);
    }

    private static void uses() {
        Check.sentence("as it lies there with the AREAS of the USE's page", BlackTest::areasMeetUsesWhereTheyLie);
        Check.sentence("AREAS of other pages do not meet it", BlackTest::areasOfOtherPagesAndUses);
        Check.sentence("or by a WORD in the FORM's row, not in the page's and the FORM's together", BlackTest::wordsOverPageAndForm);
        Check.sentence("each USE with a sign that is MARKED gets a COPY of its FORM, which is cut", BlackTest::usesGetCopies);
        Check.sentence("a USE without one gets none", BlackTest::usesWithoutMarks);
        Check.sentence("in order", BlackTest::copiesInOrder);
        Check.sentence("an earlier USE got one of the same FORM with the same signs MARKED: that one", BlackTest::sameMarksShareACopy);
        Check.sentence("the same signs, by whatever marked them", BlackTest::sameMarksByAreaAndWord);
        Check.sentence("not with others MARKED", BlackTest::differentMarksDoNot);
        Check.sentence("not of another FORM", BlackTest::equalFormsDoNotShare);
        Check.sentence("in this blacking out", BlackTest::laterBlackingOutDoesNotShare);
        Check.sentence("FORMS themselves stay", BlackTest::formsStay);
        Check.sentence("signs for USES (for each of them)", BlackTest::eachUseCounts);
        Check.sentence("a FORM of 40 signs, all MARKED or one", BlackTest::fullForms);
    }

    private static void numbersOfForms() {
        Check.sentence("the 20th FORM may be a COPY", BlackTest::theTwentiethForm);
        Check.sentence("more than 20 FORMS: UnsupportedOperationException", BlackTest::tooManyForms);
        Check.sentence("the refused call changes nothing", BlackTest::refusedBlackChangesNothing);
        Check.sentence("COPIES that are shared are one FORM", BlackTest::copiesThatJustFit);
        Check.sentence("with 20 FORMS all else can be blacked out", BlackTest::twentyFormsAndNoCopies);
    }

    private static void stores() {
        Check.sentence("a STORE that is WELL in its ENCODING is cut", BlackTest::storesOfEachEncoding);
        Check.sentence("each longest run of codes becomes one code 42", BlackTest::runsOfCodes);
        Check.sentence("a code 42 that was there parts runs", BlackTest::blotsPartRuns);
        Check.sentence("digits as 0 .. 9, A .. F; also where no WORD stands", BlackTest::digitsAreWrittenAgain);
        Check.sentence("one that is not WELL becomes empty", BlackTest::storesNotWell);
        Check.sentence("also without WORDS, and when WELL in another ENCODING", BlackTest::storesNotWellWithoutWords);
        Check.sentence("an empty one stays so", BlackTest::emptyStores);
        Check.sentence("codes of STORES (none of one that is not WELL)", BlackTest::codesThatCount);
        Check.sentence("codes up to 255 stay", BlackTest::greatCodesStay);
        Check.sentence("a STORE of 60 bytes", BlackTest::fullStores);
        Check.sentence("AREAS do not meet STORES", BlackTest::areasAndStores);
        Check.sentence("what the latest LOOKING THROUGH found stays", BlackTest::leftStaysAsItWas);
    }

    private static void nothingToBlackOut() {
        Check.due("a new object", new RedactCheck().black(), 0);
        RedactCheck x = new RedactCheck();
        Check.signs(x, 0, 0, 0, "abc");
        x.use(0, Check.form(x, 0, 0, "abc"), 0, 0);
        Check.store(x, 0, 'a', 'b');
        Check.store(x, 1, 0, 'a');
        Check.store(x, 2, 'a', 0);
        Check.store(x, 3, Check.bytes("6A"));
        String before = Check.whole(x);
        Check.due("no words and no areas", x.black(), 0);
        Check.same("all stays", Check.whole(x), before);
        Check.word(x, "ac");
        x.area(0, 30, 0, 100, 100);
        x.area(0, 0, 10, 100, 100);
        x.area(1, 0, 0, 100, 100);
        before = Check.whole(x);
        Check.due("a word that stands nowhere, areas beside the signs", x.black(), 0);
        Check.same("all stays", Check.whole(x), before);
    }

    private static void nothingASecondTime() {
        RedactCheck x = new RedactCheck();
        Check.signs(x, 0, 0, 0, "abc");
        x.use(1, Check.form(x, 0, 0, "abc"), 0, 0);
        Check.store(x, 3, Check.bytes("616263"));
        Check.word(x, "b");
        x.area(0, 0, 0, 1, 1);
        x.area(1, 0, 0, 1, 1);
        Check.due("the first", x.black(), 2 + 2 + 1);
        String before = Check.whole(x);
        Check.due("the second", x.black(), 0);
        Check.same("all stays", Check.whole(x), before);
    }

    private static void whatWentIsNotMarked() {
        RedactCheck x = new RedactCheck();
        Check.signs(x, 0, 0, 0, "abc");
        int form = Check.form(x, 0, 0, "abc");
        x.use(1, form, 0, 0);
        Check.store(x, 0, 'a', 'b', 'c');
        Check.word(x, "abc");
        Check.due("black", x.black(), 9);
        for (int page = 0; page < 4; page++) {
            x.area(page, -999, -999, 1999, 1999);
        }
        Check.word(x, "c");
        Check.due("neither by areas nor by words", x.black(), 0);
        Check.due("no form more", x.told(0), 2);
        Check.due("nor is it left", x.look(), 0);
    }

    private static void markedBeforeCut() {
        RedactCheck x = new RedactCheck();
        Check.signs(x, 0, 0, 0, "xabcy");
        Check.store(x, 0, Check.bytes("xabcy"));
        Check.word(x, "abc");
        Check.word(x, "cy");
        Check.word(x, "xy");
        Check.due("the second word is marked though the first takes its code", x.black(), 8);
        Check.same("the page", Check.row(x, 0, 0), "120@0,0+10 0@10,0+100");
        Check.same("the store", Check.bytesOf(x, 0), "120 42");
        RedactCheck y = new RedactCheck();
        Check.signs(y, 0, 0, 0, "xaby");
        Check.store(y, 0, Check.bytes("xaby"));
        Check.word(y, "ab");
        Check.word(y, "xy");
        Check.due("what a cut brings nearer is not one behind the other", y.black(), 4);
        Check.due("nor later", y.black(), 0);
        Check.due("nor is it left", y.look(), 0);
    }

    private static void wordsOnPages() {
        RedactCheck x = new RedactCheck();
        Check.signs(x, 0, 0, 7, "xabyab");
        Check.signs(x, 3, 5, 8, "ab");
        Check.word(x, "ab");
        Check.due("black", x.black(), 6);
        Check.same("page 0", Check.row(x, 0, 0), "120@0,7+10 0@10,7+100 121@30,7+10 0@40,7+100");
        Check.same("page 3", Check.row(x, 0, 3), "0@5,8+100");
        Check.due("black again", x.black(), 0);
        Check.due("a sign behind the gap", x.sign(3, 97, 1, 1, 1), 2);
    }

    private static void wordsThatOverlap() {
        RedactCheck x = new RedactCheck();
        Check.signs(x, 0, 0, 0, "banana");
        Check.signs(x, 1, 0, 0, "abcd");
        Check.signs(x, 2, 0, 0, "abab");
        Check.word(x, "ana");
        Check.word(x, "abc");
        Check.word(x, "cd");
        Check.word(x, "ab");
        Check.due("black", x.black(), 5 + 4 + 4);
        Check.same("a word over itself", Check.row(x, 0, 0), "98@0,0+10 0@10,0+100");
        Check.same("two words over one another", Check.row(x, 0, 1), "0@0,0+100");
        Check.same("two words side by side are one run", Check.row(x, 0, 2), "0@0,0+100");
    }

    private static void wordsOfOtherRows() {
        RedactCheck x = new RedactCheck();
        Check.signs(x, 0, 0, 0, "a");
        Check.signs(x, 1, 0, 0, "b");
        x.word();
        Check.word(x, "ab");
        Check.due("a word does not run over pages, one of no codes stands nowhere", x.black(), 0);
        Check.same("page 0", Check.row(x, 0, 0), "97@0,0+10");
    }

    private static void areasTouchByOneDot() {
        // The sign covers 100 .. 107 and 200 .. 209.
        Check.due("left of it", blackedByArea(90, 205, 10, 1), 0);
        Check.due("its left edge", blackedByArea(90, 205, 11, 1), 1);
        Check.due("its right edge", blackedByArea(107, 205, 1, 1), 1);
        Check.due("right of it", blackedByArea(108, 205, 50, 1), 0);
        Check.due("above it", blackedByArea(100, 190, 5, 10), 0);
        Check.due("its upper edge", blackedByArea(100, 190, 5, 11), 1);
        Check.due("its lower edge", blackedByArea(100, 209, 5, 1), 1);
        Check.due("below it", blackedByArea(100, 210, 5, 100), 0);
        Check.due("within it", blackedByArea(103, 203, 1, 1), 1);
        Check.due("all around it", blackedByArea(-999, -999, 1999, 1999), 1);
        Check.due("only the column", blackedByArea(100, 0, 8, 100), 0);
    }

    private static int blackedByArea(int atX, int atY, int wide, int high) {
        RedactCheck x = new RedactCheck();
        x.sign(2, 65, 100, 200, 8);
        x.area(2, atX, atY, wide, high);
        int gone = x.black();
        Check.same("the page", Check.row(x, 0, 2), gone == 1 ? "0@100,200+100" : "65@100,200+8");
        return gone;
    }

    private static void areasOfNoDots() {
        Check.due("0 wide", blackedByArea(103, 200, 0, 10), 0);
        Check.due("0 high", blackedByArea(100, 205, 8, 0), 0);
        Check.due("neither", blackedByArea(103, 205, 0, 0), 0);
    }

    private static void areasOfOtherPages() {
        RedactCheck x = new RedactCheck();
        Check.signs(x, 0, 0, 0, "a");
        Check.signs(x, 1, 0, 0, "a");
        x.area(1, 0, 0, 5, 5);
        Check.due("black", x.black(), 1);
        Check.same("page 0", Check.row(x, 0, 0), "97@0,0+10");
        Check.same("page 1", Check.row(x, 0, 1), "0@0,0+100");
    }

    private static void gapsStayAndPart() {
        RedactCheck x = new RedactCheck();
        Check.signs(x, 0, 0, 0, "abc");
        int word = Check.word(x, "b");
        Check.due("black", x.black(), 1);
        Check.word(x, "ac");
        Check.due("a word does not reach over a gap", x.black(), 0);
        x.area(0, 0, 0, 1999, 1999);
        Check.due("gaps are never marked", x.black(), 2);
        Check.same("nor do they melt", Check.row(x, 0, 0), "0@0,0+100 0@10,0+100 0@20,0+100");
        Check.due("nothing more", x.black(), 0);
        Check.due("the word", word, 0);
    }

    private static void gapsUnderAreas() {
        RedactCheck x = new RedactCheck();
        Check.signs(x, 0, 0, 0, "ab");
        x.use(0, Check.form(x, 0, 0, "ab"), 0, 0);
        Check.word(x, "a");
        Check.due("black", x.black(), 2);
        x.area(0, 0, 0, 1, 1);
        Check.due("a gap's first dot", x.black(), 0);
        Check.due("no copy for it", x.told(0), 2);
        x.area(0, 20, 0, 80, 10);
        Check.due("a gap's dots behind the signs", x.black(), 0);
        x.area(0, 10, 0, 1, 1);
        Check.due("a sign that a gap covers goes by itself", x.black(), 2);
        Check.same("the page", Check.row(x, 0, 0), "0@0,0+100 0@10,0+100");
        Check.same("the copy's copy", Check.row(x, 1, 2), "0@0,0+100 0@10,0+100");
        x.sign(0, 'a', 50, 0, 1);
        Check.due("a sign behind a gap", x.black(), 1);
        Check.same("the page", Check.row(x, 0, 0), "0@0,0+100 0@10,0+100 0@50,0+100");
    }

    private static void runsAtTheEdges() {
        Check.same("at the beginning", pageWithout("a", "aab"), "0@0,0+100 98@20,0+10");
        Check.same("at the end", pageWithout("a", "baa"), "98@0,0+10 0@10,0+100");
        Check.same("in the midst", pageWithout("a", "baab"), "98@0,0+10 0@10,0+100 98@30,0+10");
        Check.same("at both ends", pageWithout("a", "aba"), "0@0,0+100 98@10,0+10 0@20,0+100");
        Check.same("the whole row", pageWithout("a", "aaa"), "0@0,0+100");
        Check.same("a row of one", pageWithout("a", "a"), "0@0,0+100");
        Check.same("a row of none", pageWithout("a", ""), "");
        Check.same("two words side by side", pageWithout("ab", "abab"), "0@0,0+100");
    }

    private static String pageWithout(String word, String text) {
        RedactCheck x = new RedactCheck();
        Check.signs(x, 0, 0, 0, text);
        Check.word(x, word);
        x.black();
        return Check.row(x, 0, 0);
    }

    private static void placeOfTheFirst() {
        RedactCheck x = new RedactCheck();
        x.sign(0, 'a', 900, 800, 3);
        x.sign(0, 'b', 5, 6, 50);
        x.sign(0, 'a', 0, 0, 1);
        x.sign(0, 'b', 999, 999, 1);
        Check.word(x, "ab");
        Check.due("black", x.black(), 4);
        Check.same("first in the row, not on the page", Check.row(x, 0, 0), "0@900,800+100");
    }

    private static void areaAndWordTogether() {
        RedactCheck x = new RedactCheck();
        Check.signs(x, 0, 0, 0, "abcd");
        Check.word(x, "bc");
        x.area(0, 20, 0, 11, 1);
        x.area(0, 22, 0, 11, 1);
        Check.due("each sign went once", x.black(), 3);
        Check.same("the page", Check.row(x, 0, 0), "97@0,0+10 0@10,0+100");
    }

    private static void areasOfOtherPagesAndUses() {
        RedactCheck x = new RedactCheck();
        int form = Check.form(x, 0, 0, "a");
        for (int page = 0; page < 4; page++) {
            x.use(page, form, 0, 0);
        }
        x.area(2, 0, 0, 1, 1);
        Check.due("black", x.black(), 1);
        for (int use = 0; use < 4; use++) {
            Check.due("use " + use, x.formOf(use), use == 2 ? 1 : 0);
        }
    }

    private static void wordsOverPageAndForm() {
        RedactCheck x = new RedactCheck();
        Check.signs(x, 0, 0, 0, "a");
        x.use(0, Check.form(x, 10, 0, "b"), 0, 0);
        x.use(0, Check.form(x, 20, 0, "c"), 0, 0);
        Check.word(x, "ab");
        Check.word(x, "bc");
        Check.due("neither a page with a form nor a form with another", x.black(), 0);
        Check.due("forms", x.told(0), 2);
    }

    private static void usesWithoutMarks() {
        RedactCheck x = new RedactCheck();
        x.use(0, x.form(), 0, 0);
        x.use(0, Check.form(x, 0, 0, "b"), 0, 20);
        Check.word(x, "a");
        x.area(0, 0, 0, 100, 20);
        x.area(0, 0, 30, 100, 20);
        Check.due("a form without signs, and one between the areas", x.black(), 0);
        Check.due("forms", x.told(0), 2);
        Check.due("use 0", x.formOf(0), 0);
        Check.due("use 1", x.formOf(1), 1);
    }

    private static void copiesInOrder() {
        RedactCheck x = new RedactCheck();
        int first = Check.form(x, 0, 0, "ab");
        int second = Check.form(x, 0, 0, "abb");
        x.use(3, second, 0, 0);
        x.use(0, first, 0, 0);
        x.use(2, second, 0, 0);
        Check.word(x, "b");
        Check.due("black", x.black(), 2 + 1 + 2);
        Check.due("use 0, though its form and page are later", x.formOf(0), 2);
        Check.due("use 1", x.formOf(1), 3);
        Check.due("use 2", x.formOf(2), 2);
        Check.same("the first copy", Check.row(x, 1, 2), "97@0,0+10 0@10,0+100");
        Check.same("the second copy", Check.row(x, 1, 3), "97@0,0+10 0@10,0+100");
    }

    private static void sameMarksByAreaAndWord() {
        RedactCheck x = new RedactCheck();
        int form = Check.form(x, 0, 0, "ab");
        x.use(0, form, 0, 0);
        x.use(1, form, 700, 0);
        Check.word(x, "a");
        x.area(1, 700, 0, 5, 5);
        Check.due("black", x.black(), 2);
        Check.due("use 0, by the word", x.formOf(0), 1);
        Check.due("use 1, by the word and an area", x.formOf(1), 1);
        Check.due("forms", x.told(0), 2);
    }

    private static void formsStay() {
        RedactCheck x = new RedactCheck();
        int form = Check.form(x, 1, 2, "abc");
        x.use(0, form, 0, 0);
        Check.word(x, "b");
        x.area(0, 0, 0, 5, 5);
        Check.due("black", x.black(), 2);
        Check.same("the form", Check.row(x, 1, 0), "97@1,2+10 98@11,2+10 99@21,2+10");
        Check.same("the copy", Check.row(x, 1, 1), "0@1,2+100 99@21,2+10");
        x.formSign(form, 'd', 31, 2, 10);
        Check.due("a sign more of the form is none of the copy", x.many(1, 1), 2);
        Check.due("a use of it finds all of it", x.use(1, form, 0, 0), 1);
        Check.due("so its word goes", x.black(), 1);
        Check.same("a copy with all its signs", Check.row(x, 1, 2), "97@1,2+10 0@11,2+100 99@21,2+10 100@31,2+10");
    }

    private static void eachUseCounts() {
        RedactCheck x = new RedactCheck();
        int form = Check.form(x, 0, 0, "aba");
        for (int i = 0; i < 12; i++) {
            x.use(i % 4, form, i, i);
        }
        Check.word(x, "a");
        Check.due("two of each of 12", x.black(), 24);
        Check.due("forms", x.told(0), 2);
    }

    private static void fullForms() {
        RedactCheck x = new RedactCheck();
        x.use(0, Check.form(x, 0, 0, "a".repeat(40)), 0, 0);
        x.use(0, Check.form(x, 0, 0, "b".repeat(39) + "a"), 0, 0);
        Check.word(x, "a");
        Check.due("black", x.black(), 41);
        Check.same("all", Check.row(x, 1, 2), "0@0,0+100");
        Check.due("one", x.many(1, 3), 40);
        Check.due("the last", x.at(1, 3, 39, 0), 0);
        Check.due("its x", x.at(1, 3, 39, 1), 390);
        Check.due("the one before it", x.at(1, 3, 38, 0), 'b');
    }

    private static void usesGetCopies() {
        RedactCheck x = new RedactCheck();
        int form = Check.form(x, 3, 4, "abc");
        int other = Check.form(x, 3, 4, "xyz");
        x.use(0, form, 500, 600);
        x.use(0, other, 500, 600);
        Check.form(x, 0, 0, "bb");
        Check.word(x, "b");
        Check.due("a form that no use lays is left alone", x.black(), 1);
        Check.due("one form more", x.told(0), 4);
        Check.due("the use lays the copy", x.formOf(0), 3);
        Check.due("the other lays its form", x.formOf(1), other);
        Check.same("the form stays", Check.row(x, 1, 0), "97@3,4+10 98@13,4+10 99@23,4+10");
        Check.same("the copy is cut, in the form's places", Check.row(x, 1, 3), "97@3,4+10 0@13,4+100 99@23,4+10");
        Check.same("unlaid form stays", Check.row(x, 1, 2), "98@0,0+10 98@10,0+10");
        Check.due("black again", x.black(), 0);
        Check.due("no form more", x.told(0), 4);
    }

    private static void sameMarksShareACopy() {
        RedactCheck x = new RedactCheck();
        int form = Check.form(x, 0, 0, "abc");
        x.use(0, form, 0, 0);
        x.use(1, form, 100, 0);
        x.use(2, form, 0, 0);
        Check.word(x, "b");
        x.area(1, 100, 0, 1, 1);
        x.area(3, 0, 0, 1, 1);
        Check.due("each use counts", x.black(), 1 + 2 + 1);
        Check.due("two copies", x.told(0), 3);
        Check.due("use 0", x.formOf(0), 1);
        Check.due("use 1", x.formOf(1), 2);
        Check.due("use 2 shares with use 0", x.formOf(2), 1);
    }

    private static void differentMarksDoNot() {
        RedactCheck x = new RedactCheck();
        int form = Check.form(x, 0, 0, "aaa");
        x.use(0, form, 0, 0);
        x.use(1, form, 0, 0);
        x.use(2, form, 0, 0);
        x.area(0, 0, 0, 15, 1);
        x.area(1, 15, 0, 10, 1);
        Check.due("as many, but others", x.black(), 4);
        Check.due("use 0", x.formOf(0), 1);
        Check.due("use 1", x.formOf(1), 2);
        Check.due("use 2 has none marked", x.formOf(2), 0);
        Check.same("copy 1", Check.row(x, 1, 1), "0@0,0+100 97@20,0+10");
        Check.same("copy 2", Check.row(x, 1, 2), "97@0,0+10 0@10,0+100");
    }

    private static void equalFormsDoNotShare() {
        RedactCheck x = new RedactCheck();
        x.use(0, Check.form(x, 0, 0, "a"), 0, 0);
        x.use(0, Check.form(x, 0, 0, "a"), 0, 0);
        Check.word(x, "a");
        Check.due("black", x.black(), 2);
        Check.due("use 0", x.formOf(0), 2);
        Check.due("use 1", x.formOf(1), 3);
    }

    private static void laterBlackingOutDoesNotShare() {
        RedactCheck x = new RedactCheck();
        int form = Check.form(x, 0, 0, "ab");
        x.use(0, form, 0, 0);
        Check.word(x, "a");
        x.black();
        x.use(0, form, 0, 0);
        Check.due("black", x.black(), 1);
        Check.due("use 0 keeps its copy", x.formOf(0), 1);
        Check.due("use 1 gets a new one", x.formOf(1), 2);
        Check.word(x, "b");
        Check.due("copies are cut again", x.black(), 2);
        Check.due("use 0", x.formOf(0), 3);
        Check.due("use 1", x.formOf(1), 4);
        Check.same("a copy of the copy", Check.row(x, 1, 3), "0@0,0+100 0@10,0+100");
        Check.same("the copy stays", Check.row(x, 1, 1), "0@0,0+100 98@10,0+10");
    }

    private static void areasMeetUsesWhereTheyLie() {
        RedactCheck x = new RedactCheck();
        int form = x.form();
        x.formSign(form, 65, 999, 999, 50);
        x.use(0, form, -999, -999);
        x.use(1, form, 999, 999);
        x.use(2, form, -999, 0);
        x.area(0, 49, 9, 1, 1);
        x.area(1, 999, 999, 1050, 1000);
        x.area(2, 0, 0, 1, 999);
        Check.due("use 0 is met by one dot, use 1 by the greatest area, use 2 not", x.black(), 2);
        Check.due("use 0 and 1 have the same sign marked", x.formOf(0), 1);
        Check.due("so they share", x.formOf(1), 1);
        Check.due("use 2", x.formOf(2), 0);
    }

    /** Two uses with other signs marked, so two copies, beside a page and stores with something to go. */
    private static RedactCheck withTwoCopiesDue(int forms) {
        RedactCheck x = new RedactCheck();
        int form = Check.form(x, 0, 0, "aB");
        for (int i = 1; i < forms; i++) {
            x.form();
        }
        x.use(0, form, 0, 0);
        x.use(1, form, 0, 0);
        Check.word(x, "a");
        Check.signs(x, 0, 0, 0, "ab");
        Check.store(x, 3, Check.bytes("6a61"));
        Check.store(x, 3, Check.bytes("6a6"));
        x.area(1, 10, 0, 1, 1);
        x.look();
        return x;
    }

    private static void theTwentiethForm() {
        RedactCheck x = withTwoCopiesDue(18);
        Check.due("black", x.black(), 1 + 1 + 2 + 1);
        Check.due("forms", x.told(0), 20);
        Check.due("use 0", x.formOf(0), 18);
        Check.due("use 1", x.formOf(1), 19);
        Check.same("the twentieth", Check.row(x, 1, 19), "0@0,0+100");
    }

    private static void tooManyForms() {
        for (int forms = 19; forms <= 20; forms++) {
            RedactCheck x = withTwoCopiesDue(forms);
            Check.refused(forms + " forms and two copies", Check.UNSUPPORTED, x::black);
            Check.due("forms", x.told(0), forms);
            Check.refused("and again", Check.UNSUPPORTED, x::black);
        }
        RedactCheck y = new RedactCheck();
        y.use(0, Check.form(y, 0, 0, "a"), 0, 0);
        y.use(0, Check.form(y, 0, 0, "a"), 0, 0);
        for (int i = 2; i < 19; i++) {
            y.form();
        }
        Check.word(y, "a");
        Check.refused("the same marks of two forms are two copies", Check.UNSUPPORTED, y::black);
    }

    private static void refusedBlackChangesNothing() {
        Check.refusedForNothing("one too many", Check.UNSUPPORTED, () -> withTwoCopiesDue(19), RedactCheck::black);
        Check.refusedForNothing("two too many", Check.UNSUPPORTED, () -> withTwoCopiesDue(20), RedactCheck::black);
        RedactCheck x = withTwoCopiesDue(19);
        Check.refused("black", Check.UNSUPPORTED, x::black);
        x.letter(0, 'B');
        Check.due("the longer word marks the same of both uses: one copy is enough", x.black(), 2 + 2);
        Check.due("use 0", x.formOf(0), 19);
        Check.due("use 1", x.formOf(1), 19);
        Check.same("the page keeps what the word was before", Check.row(x, 0, 0), "97@0,0+10 98@10,0+10");
        Check.same("and so does the store", Check.bytesOf(x, 0), "54 65 54 49");
    }

    private static void twentyFormsAndNoCopies() {
        RedactCheck x = new RedactCheck();
        x.use(0, Check.form(x, 0, 0, "b"), 0, 0);
        Check.form(x, 0, 0, "a");
        for (int i = 2; i < 20; i++) {
            x.form();
        }
        Check.signs(x, 0, 0, 0, "ba");
        Check.store(x, 0, 'b', 'a');
        Check.word(x, "a");
        Check.due("a page and a store; the form that has the word is not laid", x.black(), 2);
        Check.due("forms", x.told(0), 20);
        x.use(0, 1, 0, 0);
        Check.refused("once it is, there is one too many", Check.UNSUPPORTED, x::black);
    }

    private static void copiesThatJustFit() {
        RedactCheck x = new RedactCheck();
        int form = Check.form(x, 0, 0, "aB");
        for (int i = 1; i < 19; i++) {
            x.form();
        }
        for (int i = 0; i < 12; i++) {
            x.use(i % 4, form, 10 * i, 0);
        }
        Check.word(x, "a");
        Check.due("twelve uses share the twentieth form", x.black(), 12);
        Check.due("forms", x.told(0), 20);
        for (int i = 0; i < 12; i++) {
            Check.due("use " + i, x.formOf(i), 19);
        }
        Check.due("with 20 forms and nothing marked", x.black(), 0);
    }

    private static void storesOfEachEncoding() {
        RedactCheck x = new RedactCheck();
        Check.word(x, "ab");
        Check.word(x, "bc");
        Check.store(x, 0, Check.bytes("xabcyab"));
        Check.store(x, 1, 0, 'x', 0, 'a', 0, 'b', 0, 'a', 0, 'b', 0, 'y');
        Check.store(x, 2, 'a', 0, 'b', 0, 'z', 0);
        Check.store(x, 3, Check.bytes("616263ff2A"));
        Check.due("black", x.black(), 5 + 4 + 2 + 3);
        Check.same("store 0", Check.bytesOf(x, 0), "120 42 121 42");
        Check.same("store 1", Check.bytesOf(x, 1), "0 120 0 42 0 121");
        Check.same("store 2", Check.bytesOf(x, 2), "42 0 122 0");
        Check.same("store 3", Check.bytesOf(x, 3), "50 65 70 70 50 65");
        Check.due("black again", x.black(), 0);
        Check.due("only its own encoding is cut", Check.store(x, 0, 0, 'a', 0, 'b'), 4);
        Check.due("so nothing went", x.black(), 0);
        Check.same("store 4", Check.bytesOf(x, 4), "0 97 0 98");
        Check.due("bytes behind the cut ones", x.octet(2, (byte) 9), 5);
        Check.same("store 2 with one more", Check.bytesOf(x, 2), "42 0 122 0 9");
    }

    private static void runsOfCodes() {
        Check.same("at the beginning", storeWithout("a", "aab"), "42 98");
        Check.same("at the end", storeWithout("a", "baa"), "98 42");
        Check.same("in the midst", storeWithout("a", "baab"), "98 42 98");
        Check.same("at both ends", storeWithout("a", "aba"), "42 98 42");
        Check.same("the whole store", storeWithout("a", "aaa"), "42");
        Check.same("a store of one", storeWithout("a", "a"), "42");
        Check.same("two words side by side", storeWithout("ab", "abab"), "42");
        Check.same("a word over itself", storeWithout("aba", "ababa"), "42");
        Check.same("a word short of its last code", storeWithout("abc", "abab"), "97 98 97 98");
    }

    private static String storeWithout(String word, String text) {
        RedactCheck x = new RedactCheck();
        Check.word(x, word);
        Check.store(x, 0, Check.bytes(text));
        x.black();
        return Check.bytesOf(x, 0);
    }

    private static void blotsPartRuns() {
        Check.same("between two that go", storeWithout("a", "a*a"), "42 42 42");
        Check.same("before and behind one", storeWithout("a", "*a*"), "42 42 42");
        Check.same("a word does not stand over it", storeWithout("ab", "a*b"), "97 42 98");
        RedactCheck x = new RedactCheck();
        Check.word(x, "a");
        Check.store(x, 0, Check.bytes("a*aa*"));
        Check.due("it does not count", x.black(), 3);
        Check.same("nor does it go", Check.bytesOf(x, 0), "42 42 42 42");
    }

    private static void storesNotWellWithoutWords() {
        RedactCheck x = new RedactCheck();
        Check.store(x, 1, 'a', 0);
        Check.store(x, 2, 0, 'a');
        Check.store(x, 3, 0, 'a');
        Check.store(x, 1, Check.bytes("6162"));
        Check.store(x, 0, 0, 'a');
        Check.due("black", x.black(), 0);
        for (int i = 0; i < 4; i++) {
            Check.due("store " + i + " is empty", x.many(2, i), 0);
        }
        Check.same("a store of encoding 0 is always well", Check.bytesOf(x, 4), "0 97");
        Check.due("an emptied one can be filled", x.octet(0, (byte) 0), 1);
        Check.due("stores", x.told(4), 5);
    }

    private static void emptyStores() {
        RedactCheck x = new RedactCheck();
        Check.word(x, "a");
        for (int encoding = 0; encoding < 4; encoding++) {
            x.store(encoding);
        }
        Check.due("black", x.black(), 0);
        for (int store = 0; store < 4; store++) {
            Check.due("bytes", x.many(2, store), 0);
        }
        x.octet(3, (byte) '6');
        x.octet(3, (byte) '1');
        Check.due("it keeps its encoding", x.black(), 1);
        Check.same("its bytes", Check.bytesOf(x, 3), "50 65");
    }

    private static void codesThatCount() {
        RedactCheck x = new RedactCheck();
        Check.word(x, "a");
        Check.store(x, 3, Check.bytes("616161"));
        Check.due("codes, not bytes, and all of a run", x.black(), 3);
        Check.store(x, 1, 0, 'a', 0, 'a', 1);
        Check.store(x, 2, 'a', 0, 'a', 7);
        Check.store(x, 3, Check.bytes("6161x"));
        Check.due("none of those that are not well", x.black(), 0);
        Check.store(x, 0, 'a', 'b', 'a');
        Check.store(x, 1, 0, 'a');
        Check.due("those of several together", x.black(), 3);
    }

    private static void storesNotWell() {
        RedactCheck x = new RedactCheck();
        Check.word(x, "a");
        Check.store(x, 1, 0, 'a', 0);
        Check.store(x, 1, 0, 'a', 1, 'a');
        Check.store(x, 2, 'a', 0, 'a');
        Check.store(x, 2, 'a', 0, 'a', 1);
        Check.store(x, 3, Check.bytes("616"));
        Check.store(x, 3, Check.bytes("616G"));
        Check.store(x, 3, Check.bytes("61@1"));
        Check.store(x, 2);
        Check.due("none of them counts", x.black(), 0);
        for (int i = 0; i < 8; i++) {
            Check.due("store " + i + " is empty", x.many(2, i), 0);
        }
    }

    private static void digitsAreWrittenAgain() {
        RedactCheck x = new RedactCheck();
        Check.store(x, 3, Check.bytes("afAF09"));
        Check.store(x, 3, Check.bytes("61/1"));
        Check.store(x, 3, Check.bytes("6:"));
        Check.store(x, 3, Check.bytes("6`"));
        Check.store(x, 3, Check.bytes("g6"));
        Check.due("black", x.black(), 0);
        Check.same("digits", Check.bytesOf(x, 0), "65 70 65 70 48 57");
        for (int i = 1; i < 5; i++) {
            Check.due("no digits", x.many(2, i), 0);
        }
    }

    private static void greatCodesStay() {
        RedactCheck x = new RedactCheck();
        Check.word(x, "a");
        Check.store(x, 0, 255, 'a', 128, 0, 'a' + 128);
        Check.store(x, 1, 0, 255, 0, 'a', 0, 0);
        Check.store(x, 2, 200, 0, 'a', 0);
        Check.due("black", x.black(), 3);
        Check.same("store 0", Check.bytesOf(x, 0), "-1 42 -128 0 -31");
        Check.same("store 1", Check.bytesOf(x, 1), "0 -1 0 42 0 0");
        Check.same("store 2", Check.bytesOf(x, 2), "-56 0 42 0");
    }

    private static void fullRows() {
        RedactCheck x = new RedactCheck();
        Check.word(x, "a");
        Check.signs(x, 0, 0, 0, "b".repeat(39) + "a");
        Check.signs(x, 1, 0, 0, "a".repeat(40));
        Check.signs(x, 3, 0, 0, "a" + "b".repeat(39));
        Check.due("black", x.black(), 1 + 40 + 1);
        Check.due("page 0 is as long", x.many(0, 0), 40);
        Check.due("its last is a gap", x.at(0, 0, 39, 0), 0);
        Check.same("page 1", Check.row(x, 0, 1), "0@0,0+100");
        Check.due("page 3 is as long", x.many(0, 3), 40);
        Check.due("its first is a gap", x.at(0, 3, 0, 0), 0);
    }

    private static void everyOtherSign() {
        RedactCheck x = new RedactCheck();
        Check.word(x, "a");
        Check.signs(x, 0, 0, 0, "ab".repeat(20));
        Check.due("black", x.black(), 20);
        Check.due("signs", x.many(0, 0), 40);
        for (int i = 0; i < 40; i++) {
            Check.due("sign " + i, x.at(0, 0, i, 0), i % 2 == 0 ? 0 : 'b');
            Check.due("its x", x.at(0, 0, i, 1), 10 * i);
        }
        Check.word(x, "b");
        Check.due("the others", x.black(), 20);
        Check.due("forty gaps side by side", x.many(0, 0), 40);
        Check.refused("so there is no room", Check.UNSUPPORTED, () -> x.sign(0, 'c', 0, 0, 1));
    }

    private static void fullStores() {
        RedactCheck x = new RedactCheck();
        Check.word(x, "a");
        Check.store(x, 0, Check.bytes("b".repeat(59) + "a"));
        Check.store(x, 0, Check.bytes("a".repeat(60)));
        Check.store(x, 0, Check.bytes("ab".repeat(30)));
        Check.store(x, 3, Check.bytes("6261".repeat(15)));
        Check.due("black", x.black(), 1 + 60 + 30 + 15);
        Check.due("bytes of store 0", x.many(2, 0), 60);
        Check.due("its last", x.byteOf(0, 59), 42);
        Check.same("store 1", Check.bytesOf(x, 1), "42");
        Check.same("store 2", Check.bytesOf(x, 2), "42 98 ".repeat(30).trim());
        Check.same("store 3", Check.bytesOf(x, 3), "54 50 50 65 ".repeat(15).trim());
        RedactCheck y = new RedactCheck();
        Check.word(y, "a");
        Check.store(y, 1, bytesOfPairs(0, 'a'));
        Check.store(y, 2, bytesOfPairs('a', 0));
        Check.due("black", y.black(), 30 + 30);
        Check.same("store 0", Check.bytesOf(y, 0), "0 42");
        Check.same("store 1", Check.bytesOf(y, 1), "42 0");
    }

    private static int[] bytesOfPairs(int first, int second) {
        int[] bytes = new int[60];
        for (int i = 0; i < 60; i++) {
            bytes[i] = i % 2 == 0 ? first : second;
        }
        return bytes;
    }

    private static void areasAndStores() {
        RedactCheck x = new RedactCheck();
        Check.store(x, 0, 'a', 'b');
        for (int page = 0; page < 4; page++) {
            x.area(page, -999, -999, 1999, 1999);
        }
        Check.due("black", x.black(), 0);
        Check.same("the store", Check.bytesOf(x, 0), "97 98");
    }

    private static void leftStaysAsItWas() {
        RedactCheck x = new RedactCheck();
        Check.signs(x, 0, 0, 0, "a");
        Check.word(x, "a");
        x.look();
        x.black();
        Check.due("places left are those of the latest look", x.told(5), 1);
        Check.same("and so is what they tell", Check.leftAt(x, 0), "0 0 0 0 -1");
    }
}
