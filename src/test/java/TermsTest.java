/** The bounds that "Terms" names for signs, gaps, rows, uses, words, areas and stores; a test for each sentence. */
public final class TermsTest {
    private TermsTest() {
    }

    public static void main(String[] args) {
        Check.sentence("an object is used for at most 512 calls", TermsTest::theLastCall);
        Check.sentence("a SIGN covers x .. x + width - 1", TermsTest::dotsBesideEachOther);
        Check.sentence("a SIGN covers y .. y + 9", TermsTest::dotsBelowEachOther);
        Check.sentence("a SIGN at the least and the greatest place", TermsTest::dotsOfTheFarthestSigns);
        Check.sentence("a GAP is a sign with the CODE 0 and the width 100", TermsTest::gaps);
        Check.sentence("ROWS of signs, 40 at most in each: one for each PAGE 0 .. 3", TermsTest::allPagesFull);
        Check.sentence("one for each FORM (20 at most, also those that are COPIES)", TermsTest::allFormsAndCopies);
        Check.sentence("each sign of it lies there farther by dx and dy", TermsTest::signsOfUsesLieFarther);
        Check.sentence("a sign of a USE may lie outside 0 .. 999", TermsTest::signsOfUsesLieOutside);
        Check.sentence("12 USES at most, numbered 0, 1, .. as they came", TermsTest::usesAsTheyCame);
        Check.sentence("none at first: such a WORD stands nowhere", TermsTest::wordsWithoutCodes);
        Check.sentence("WORDS are 1 to 8 codes", TermsTest::shortestAndLongestWord);
        Check.sentence("WORDS, 4 at most: each of them is sought", TermsTest::allWords);
        Check.sentence("codes 33 .. 126 but 42", TermsTest::wordsDoNotHoldWhatCuttingLeaves);
        Check.sentence("AREAS, 8 at most: each of them marks", TermsTest::allAreas);
        Check.sentence("a WORD STANDS, if its codes are there one behind the other", TermsTest::wordsAtARowsEnds);
        Check.sentence("also where another one does, in part", TermsTest::wordsOverOthers);
        Check.sentence("or itself, in part", TermsTest::wordsOverThemselves);
        Check.sentence("STORES, 8 at most, are rows of bytes (60 at most)", TermsTest::allStores);
        Check.sentence("ENCODING 0: each byte is a code (0 .. 255)", TermsTest::plain);
        Check.sentence("ENCODING 1: two bytes are one, the first 0", TermsTest::zeroFirst);
        Check.sentence("ENCODING 2: likewise, the second 0", TermsTest::zeroSecond);
        Check.sentence("ENCODING 3: two hexadecimal digits (0 .. 9, A .. F, a .. f) are one", TermsTest::digits);
        Check.sentence("ENCODING 3: digits tell 0 .. 15", TermsTest::valuesOfDigits);
        Check.sentence("ENCODING 3: the higher first", TermsTest::higherDigitFirst);
        Check.sentence("bytes are WELL in an ENCODING, if all of them are so", TermsTest::wellIfAllAre);
        Check.sentence("no bytes are WELL in each ENCODING", TermsTest::noBytesAreWell);
        Check.end();
    }

    private static void theLastCall() {
        RedactCheck x = new RedactCheck();
        Check.signs(x, 0, 0, 0, "ab");
        Check.word(x, "b");
        for (int calls = 4; calls < 510; calls++) {
            Check.due("told", x.told(2), 1);
        }
        Check.due("call 511", x.black(), 1);
        Check.due("call 512", x.at(0, 0, 1, 0), 0);
    }

    /** How many signs an area takes of a page that has one. */
    private static int taken(int atX, int atY, int width, int areaX, int areaY, int wide, int high) {
        RedactCheck x = new RedactCheck();
        x.sign(2, 65, atX, atY, width);
        x.area(2, areaX, areaY, wide, high);
        return x.black();
    }

    private static void dotsBesideEachOther() {
        for (int width : new int[] {1, 2, 49, 50}) {
            Check.due("left of it", taken(100, 200, width, 99, 205, 1, 1), 0);
            Check.due("its first column", taken(100, 200, width, 100, 205, 1, 1), 1);
            Check.due("its last column", taken(100, 200, width, 100 + width - 1, 205, 1, 1), 1);
            Check.due("right of it", taken(100, 200, width, 100 + width, 205, 1, 1), 0);
            Check.due("all left of it", taken(100, 200, width, -999, 205, 1099, 1), 0);
            Check.due("one more", taken(100, 200, width, -999, 205, 1100, 1), 1);
            Check.due("all right of it", taken(100, 200, width, 100 + width, 205, 1999, 1), 0);
            Check.due("its last column and all right", taken(100, 200, width, 100 + width - 1, 205, 1999, 1), 1);
        }
    }

    private static void dotsBelowEachOther() {
        for (int width : new int[] {1, 50}) {
            Check.due("above it", taken(100, 200, width, 100, 199, 1, 1), 0);
            Check.due("its first line", taken(100, 200, width, 100, 200, 1, 1), 1);
            Check.due("its last line", taken(100, 200, width, 100, 209, 1, 1), 1);
            Check.due("below it", taken(100, 200, width, 100, 210, 1, 1), 0);
            Check.due("all above it", taken(100, 200, width, 100, -999, 1, 1199), 0);
            Check.due("one more", taken(100, 200, width, 100, -999, 1, 1200), 1);
            Check.due("all below it", taken(100, 200, width, 100, 210, 1, 1999), 0);
            Check.due("its last line and all below", taken(100, 200, width, 100, 209, 1, 1999), 1);
        }
    }

    private static void dotsOfTheFarthestSigns() {
        Check.due("the least x, up to -1", taken(0, 0, 1, -999, 0, 999, 1), 0);
        Check.due("the least x, up to 0", taken(0, 0, 1, -999, 0, 1000, 1), 1);
        Check.due("the least y, up to -1", taken(0, 0, 1, 0, -999, 1, 999), 0);
        Check.due("the least y, up to 0", taken(0, 0, 1, 0, -999, 1, 1000), 1);
        Check.due("the greatest x, up to 998", taken(999, 999, 50, -999, 999, 1998, 1), 0);
        Check.due("the greatest x, up to 999", taken(999, 999, 50, -999, 999, 1999, 1), 1);
        Check.due("the greatest y, up to 998", taken(999, 999, 50, 999, -999, 1, 1998), 0);
        Check.due("the greatest y, up to 999", taken(999, 999, 50, 999, -999, 1, 1999), 1);
        Check.due("the greatest area of all, the greatest sign", taken(999, 999, 1, -999, -999, 1999, 1999), 1);
        Check.due("the farthest area of one dot", taken(999, 999, 1, 999, 999, 1, 1), 1);
    }

    private static void gaps() {
        RedactCheck x = new RedactCheck();
        x.sign(0, 65, 7, 8, 1);
        for (int i = 0; i < 40; i++) {
            x.sign(1, 65, 20 * i, 9, 50);
        }
        Check.word(x, "A");
        Check.due("black", x.black(), 41);
        Check.same("a gap for the narrowest sign", Check.row(x, 0, 0), "0@7,8+100");
        Check.same("a gap for 40 of the widest", Check.row(x, 0, 1), "0@0,9+100");
    }

    private static void allPagesFull() {
        RedactCheck x = new RedactCheck();
        for (int page = 0; page < 4; page++) {
            for (int i = 1; i <= 40; i++) {
                Check.due("sign", x.sign(page, 33 + i, page, i, 1), i);
            }
        }
        for (int page = 0; page < 4; page++) {
            int number = page;
            Check.refused("the 41st of page " + page, Check.UNSUPPORTED, () -> x.sign(number, 65, 0, 0, 1));
            Check.due("its last code", x.at(0, page, 39, 0), 73);
            Check.due("its last x", x.at(0, page, 39, 1), page);
        }
    }

    /** 8 forms, of which the first is laid 12 times, each with another sign marked: 12 copies. */
    private static RedactCheck withTwelveCopiesDue(int forms) {
        RedactCheck x = new RedactCheck();
        int form = Check.form(x, 0, 0, "abcdefghijkl");
        for (int i = 1; i < forms; i++) {
            x.form();
        }
        for (int i = 0; i < 12; i++) {
            x.use(0, form, 500 - 10 * i, 0);
        }
        x.area(0, 500, 0, 1, 10);
        return x;
    }

    private static void allFormsAndCopies() {
        RedactCheck x = withTwelveCopiesDue(8);
        Check.due("a sign for each of 12 uses", x.black(), 12);
        Check.due("forms and copies", x.told(0), 20);
        for (int i = 0; i < 12; i++) {
            Check.due("use " + i, x.formOf(i), 8 + i);
            Check.due("its gap", x.at(1, 8 + i, i, 0), 0);
            Check.due("its signs", x.many(1, 8 + i), 12);
        }
        Check.refused("the 21st", Check.UNSUPPORTED, x::form);
        Check.refusedForNothing("9 forms and 12 copies", Check.UNSUPPORTED, () -> withTwelveCopiesDue(9), RedactCheck::black);
    }

    /** How many signs an area of one dot takes of a use of a form that has one sign. */
    private static int takenOfUse(int atX, int atY, int width, int dx, int dy, int areaX, int areaY) {
        RedactCheck x = new RedactCheck();
        int form = x.form();
        x.formSign(form, 65, atX, atY, width);
        x.use(3, form, dx, dy);
        x.area(3, areaX, areaY, 1, 1);
        return x.black();
    }

    private static void signsOfUsesLieFarther() {
        Check.due("not where the form has it", takenOfUse(100, 200, 5, 30, 40, 100, 200), 0);
        Check.due("left of it", takenOfUse(100, 200, 5, 30, 40, 129, 240), 0);
        Check.due("its first column", takenOfUse(100, 200, 5, 30, 40, 130, 240), 1);
        Check.due("its last column", takenOfUse(100, 200, 5, 30, 40, 134, 240), 1);
        Check.due("right of it", takenOfUse(100, 200, 5, 30, 40, 135, 240), 0);
        Check.due("above it", takenOfUse(100, 200, 5, 30, -40, 130, 159), 0);
        Check.due("its first line", takenOfUse(100, 200, 5, 30, -40, 130, 160), 1);
        Check.due("its last line", takenOfUse(100, 200, 5, 30, -40, 130, 169), 1);
        Check.due("below it", takenOfUse(100, 200, 5, 30, -40, 130, 170), 0);
        Check.due("dx is not dy", takenOfUse(100, 200, 5, 30, 40, 140, 230), 0);
    }

    private static void signsOfUsesLieOutside() {
        Check.due("the least place, its first dot", takenOfUse(0, 0, 1, -999, -999, -999, -999), 1);
        Check.due("the least place, its last line", takenOfUse(0, 0, 1, -999, -999, -999, -990), 1);
        Check.due("right of it", takenOfUse(0, 0, 1, -999, -999, -998, -999), 0);
        Check.due("below it", takenOfUse(0, 0, 1, -999, -999, -999, -989), 0);
        Check.due("the greatest sign laid back to 0, its last dot", takenOfUse(999, 999, 50, -999, -999, 49, 9), 1);
        Check.due("behind that", takenOfUse(999, 999, 50, -999, -999, 50, 9), 0);
        Check.due("below that", takenOfUse(999, 999, 50, -999, -999, 49, 10), 0);
        Check.due("the greatest place of all", farthestTaken(1000), 1);
        Check.due("one dot less", farthestTaken(999), 0);
    }

    /** The farthest sign of a use lies at 1998, which an area reaches from 999 by its width and height alone. */
    private static int farthestTaken(int far) {
        RedactCheck x = new RedactCheck();
        int form = x.form();
        x.formSign(form, 65, 999, 999, 1);
        x.use(0, form, 999, 999);
        x.area(0, 999, 999, far, 1999);
        x.area(0, 999, 999, 1999, 999);
        return x.black();
    }

    private static void usesAsTheyCame() {
        RedactCheck x = new RedactCheck();
        Check.word(x, "a");
        for (int i = 0; i < 12; i++) {
            Check.due("use", x.use(0, Check.form(x, 0, 0, i % 2 == 0 ? "a" : "b"), 0, 0), i);
        }
        Check.refused("the 13th", Check.UNSUPPORTED, () -> x.use(0, 0, 0, 0));
        Check.due("look", x.look(), 6);
        for (int i = 0; i < 6; i++) {
            Check.same("by numbers", Check.leftAt(x, i), "1 " + 2 * i + " 0 0 -1");
        }
    }

    private static void wordsWithoutCodes() {
        RedactCheck x = new RedactCheck();
        x.word();
        Check.due("in rows without anything", x.look(), 0);
        Check.signs(x, 0, 0, 0, "ab");
        x.use(0, Check.form(x, 0, 0, "ab"), 0, 0);
        Check.store(x, 0, 0, 'a');
        Check.store(x, 3, Check.bytes("00"));
        Check.due("look", x.look(), 0);
        String before = Check.whole(x);
        Check.due("black", x.black(), 0);
        Check.same("all is as before", Check.whole(x), before);
        x.letter(0, 'b');
        Check.due("with its first code it stands", x.look(), 2);
    }

    private static void shortestAndLongestWord() {
        RedactCheck x = new RedactCheck();
        Check.word(x, "z");
        Check.word(x, "abcdefgh");
        Check.signs(x, 0, 0, 0, "z");
        Check.signs(x, 1, 0, 0, "abcdefgh");
        Check.signs(x, 2, 0, 0, "abcdefg");
        Check.signs(x, 3, 0, 0, "bcdefgh");
        Check.due("look", x.look(), 2);
        Check.same("the shortest in the shortest row", Check.leftAt(x, 0), "0 0 0 0 -1");
        Check.same("the longest in a row as long", Check.leftAt(x, 1), "0 1 0 1 -1");
        Check.due("black", x.black(), 9);
        Check.due("one code less is not the word", x.many(0, 2), 7);
        Check.due("nor is one less before", x.many(0, 3), 7);
    }

    private static void allWords() {
        RedactCheck x = new RedactCheck();
        for (int i = 0; i < 4; i++) {
            Check.word(x, String.valueOf((char) ('a' + i)));
        }
        Check.signs(x, 0, 0, 0, "edcba");
        Check.due("look", x.look(), 4);
        for (int i = 0; i < 4; i++) {
            Check.same("word " + (3 - i), Check.leftAt(x, i), "0 0 " + (i + 1) + " " + (3 - i) + " -1");
        }
        Check.due("black", x.black(), 4);
        Check.same("the page", Check.row(x, 0, 0), "101@0,0+10 0@10,0+100");
    }

    private static void wordsDoNotHoldWhatCuttingLeaves() {
        RedactCheck x = new RedactCheck();
        Check.word(x, "a");
        Check.refused("42", Check.ARGUMENT, () -> x.letter(0, 42));
        Check.refused("0", Check.ARGUMENT, () -> x.letter(0, 0));
        Check.signs(x, 0, 0, 0, "*a*");
        Check.store(x, 0, '*', 'a', '*');
        Check.due("black", x.black(), 2);
        Check.same("signs with the code 42 stay", Check.row(x, 0, 0), "42@0,0+10 0@10,0+100 42@20,0+10");
        Check.same("codes 42 stay beside the new one", Check.bytesOf(x, 0), "42 42 42");
        Check.due("nothing more goes", x.black(), 0);
        Check.due("nor is left", x.look(), 0);
    }

    private static void allAreas() {
        RedactCheck x = new RedactCheck();
        Check.signs(x, 1, 0, 0, "abcdefghi");
        for (int i = 0; i < 8; i++) {
            x.area(1, 10 * i + 5, 5, 1, 1);
        }
        Check.due("black", x.black(), 8);
        Check.same("the page", Check.row(x, 0, 1), "0@0,0+100 105@80,0+10");
    }

    private static void wordsAtARowsEnds() {
        RedactCheck x = new RedactCheck();
        Check.word(x, "ab");
        Check.signs(x, 0, 0, 0, "ab" + "x".repeat(36) + "ab");
        Check.signs(x, 1, 0, 0, "b" + "x".repeat(38) + "a");
        Check.signs(x, 2, 0, 0, "axb");
        Check.store(x, 0, Check.bytes("ab" + "x".repeat(56) + "ab"));
        Check.store(x, 0, Check.bytes("b" + "x".repeat(58) + "a"));
        Check.due("look", x.look(), 4);
        Check.same("at the first place", Check.leftAt(x, 0), "0 0 0 0 -1");
        Check.same("at the last", Check.leftAt(x, 1), "0 0 38 0 -1");
        Check.same("at a store's first", Check.leftAt(x, 2), "2 0 0 0 0");
        Check.same("at a store's last", Check.leftAt(x, 3), "2 0 58 0 0");
        Check.due("black: it does not reach from an end to the other, nor over others", x.black(), 8);
        Check.due("signs of page 0", x.many(0, 0), 38);
        Check.due("bytes of store 0", x.many(2, 0), 58);
    }

    private static void wordsOverOthers() {
        RedactCheck x = new RedactCheck();
        Check.word(x, "abc");
        Check.word(x, "bcd");
        Check.word(x, "b");
        Check.word(x, "abc");
        Check.signs(x, 0, 0, 0, "abcd");
        Check.due("look", x.look(), 4);
        Check.same("the first", Check.leftAt(x, 0), "0 0 0 0 -1");
        Check.same("one like it", Check.leftAt(x, 1), "0 0 0 3 -1");
        Check.same("one that begins in it", Check.leftAt(x, 2), "0 0 1 1 -1");
        Check.same("one within it", Check.leftAt(x, 3), "0 0 1 2 -1");
        Check.due("each sign goes once", x.black(), 4);
        Check.same("one gap", Check.row(x, 0, 0), "0@0,0+100");
    }

    private static void wordsOverThemselves() {
        RedactCheck x = new RedactCheck();
        Check.word(x, "aba");
        Check.signs(x, 0, 0, 0, "xababax");
        Check.store(x, 0, Check.bytes("xababax"));
        Check.due("look", x.look(), 4);
        Check.same("the first", Check.leftAt(x, 0), "0 0 1 0 -1");
        Check.same("the one over it", Check.leftAt(x, 1), "0 0 3 0 -1");
        Check.due("each goes once", x.black(), 10);
        Check.same("one gap", Check.row(x, 0, 0), "120@0,0+10 0@10,0+100 120@60,0+10");
        Check.same("one code", Check.bytesOf(x, 0), "120 42 120");
    }

    private static void allStores() {
        RedactCheck x = new RedactCheck();
        for (int store = 0; store < 8; store++) {
            Check.due("store", x.store(0), store);
        }
        Check.refused("the 9th", Check.UNSUPPORTED, () -> x.store(0));
        for (int i = 1; i <= 60; i++) {
            Check.due("byte", x.octet(7, (byte) -i), i);
        }
        Check.refused("the 61st", Check.UNSUPPORTED, () -> x.octet(7, (byte) 1));
        Check.due("black", x.black(), 0);
        Check.due("the last", x.byteOf(7, 59), -60);
        Check.due("bytes of the store before it", x.many(2, 6), 0);
    }

    /** What a store of an encoding holds after it was blacked out. */
    private static String blacked(int encoding, int... bytes) {
        RedactCheck x = new RedactCheck();
        Check.word(x, "a");
        Check.store(x, encoding, bytes);
        x.black();
        return Check.bytesOf(x, 0);
    }

    private static void plain() {
        Check.same("the least and the greatest code", blacked(0, 0, 'a', 255), "0 42 -1");
        Check.same("those of which half are below 0", blacked(0, 127, 128), "127 -128");
        Check.same("a code 256 more would be the word's", blacked(0, 'a' - 128, 'a' + 128), "-31 -31");
        Check.same("an odd number of bytes", blacked(0, 'a', 'b', 'c'), "42 98 99");
        Check.same("one byte", blacked(0, 200), "-56");
    }

    private static void zeroFirst() {
        Check.same("the least and the greatest code", blacked(1, 0, 0, 0, 255), "0 0 0 -1");
        Check.same("one that goes", blacked(1, 0, 'a'), "0 42");
        Check.same("the first is 1", blacked(1, 1, 'a'), "");
        Check.same("the first is -1", blacked(1, 255, 'a'), "");
        Check.same("the second is 0, the first not", blacked(1, 'a', 0), "");
        Check.same("one byte", blacked(1, 0), "");
        Check.same("three bytes", blacked(1, 0, 'b', 0), "");
    }

    private static void zeroSecond() {
        Check.same("the least and the greatest code", blacked(2, 0, 0, 255, 0), "0 0 -1 0");
        Check.same("one that goes", blacked(2, 'a', 0), "42 0");
        Check.same("the second is 1", blacked(2, 'a', 1), "");
        Check.same("the second is -1", blacked(2, 'a', 255), "");
        Check.same("the first is 0, the second not", blacked(2, 0, 'a'), "");
        Check.same("one byte", blacked(2, 'a'), "");
        Check.same("three bytes", blacked(2, 'b', 0, 'b'), "");
        Check.same("three bytes, the last 0", blacked(2, 'b', 0, 0), "");
    }

    private static void digits() {
        String fine = "0123456789ABCDEFabcdef";
        for (int b = 0; b < 256; b++) {
            boolean digit = fine.indexOf(b) >= 0;
            String upper = digit ? String.valueOf((int) Character.toUpperCase((char) b)) : "";
            Check.same("the lower digit " + b, blacked(3, '0', b), digit ? "48 " + upper : "");
            Check.same("the higher digit " + b, blacked(3, b, '0'), digit ? upper + " 48" : "");
        }
        Check.same("one digit", blacked(3, '6'), "");
        Check.same("three digits", blacked(3, '6', '2', '6'), "");
    }

    private static void valuesOfDigits() {
        for (char digit : "0123456789ABCDEFabcdef".toCharArray()) {
            int value = Integer.parseInt(String.valueOf(digit), 16);
            RedactCheck x = new RedactCheck();
            Check.word(x, String.valueOf((char) (64 + value)));
            Check.store(x, 3, '4', digit);
            Check.due("the lower digit " + digit, x.black(), 1);
            if (value >= 3 && value <= 7) {
                RedactCheck y = new RedactCheck();
                Check.word(y, String.valueOf((char) (16 * value + 1)));
                Check.store(y, 3, digit, '1');
                Check.due("the higher digit " + digit, y.black(), 1);
            }
        }
    }

    private static void higherDigitFirst() {
        Check.same("61 is the word's code", blacked(3, Check.bytes("61")), "50 65");
        Check.same("16 is not", blacked(3, Check.bytes("16")), "49 54");
        Check.same("the least and the greatest code", blacked(3, Check.bytes("00fF")), "48 48 70 70");
        RedactCheck x = new RedactCheck();
        Check.word(x, "jkz");
        Check.store(x, 3, Check.bytes("6a6B7A"));
        Check.due("digits of each kind", x.black(), 3);
        Check.same("the store", Check.bytesOf(x, 0), "50 65");
    }

    private static void wellIfAllAre() {
        int[] well = new int[60];
        for (int encoding = 1; encoding < 4; encoding++) {
            for (int i = 0; i < 60; i++) {
                well[i] = encoding == 3 ? '7' : 0;
            }
            for (int wrong = 0; wrong < 60; wrong += 59) {
                int[] bytes = well.clone();
                int at = encoding == 1 ? wrong / 2 * 2 : encoding == 2 ? wrong / 2 * 2 + 1 : wrong;
                bytes[at] = 1;
                Check.same("encoding " + encoding + ", byte " + at + " is not so", blacked(encoding, bytes), "");
            }
            Check.due("encoding " + encoding + ", all are so", blacked(encoding, well).split(" ").length, 60);
        }
    }

    private static void noBytesAreWell() {
        for (int encoding = 0; encoding < 4; encoding++) {
            RedactCheck x = new RedactCheck();
            Check.word(x, "a");
            Check.store(x, encoding);
            Check.due("black", x.black(), 0);
            Check.due("it stays empty", x.many(2, 0), 0);
            Check.due("look", x.look(), 0);
            Check.due("it can be filled", x.octet(0, (byte) 'b'), 1);
        }
    }
}
