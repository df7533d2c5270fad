/** Promises 12 and 13, and what "Terms" says of looking through; a test for each sentence. */
public final class LookTest {
    private static final int LEAST = Integer.MIN_VALUE;
    private static final int GREATEST = Integer.MAX_VALUE;

    private LookTest() {
    }

    public static void main(String[] args) {
        looking();
        hundred();
        left();
        Check.end();
    }

    private static void looking() {
        Check.sentence("nothing LEFT", LookTest::nothingLeft);
        Check.sentence("for each page, then for each USE, then for each STORE, by numbers", LookTest::order);
        Check.sentence("place by place, of several the lesser WORD first", LookTest::placesAndWords);
        Check.sentence("each place of its row, the first and the last", LookTest::firstAndLastPlace);
        Check.sentence("its row: not from one to the next", LookTest::rowsAreApart);
        Check.sentence("for each USE in the row of its FORM", LookTest::rowsOfUses);
        Check.sentence("each USE, also of the same FORM", LookTest::usesOfOneForm);
        Check.sentence("FORMS without a USE are not looked through", LookTest::formsWithoutUse);
        Check.sentence("for each STORE in each ENCODING in which its bytes are WELL", LookTest::storesInEveryEncoding);
        Check.sentence("not in an ENCODING in which they are not WELL", LookTest::storesNotWell);
        Check.sentence("an empty STORE", LookTest::emptyStores);
        Check.sentence("AREAS leave nothing", LookTest::areasLeaveNothing);
        Check.sentence("LOOKING THROUGH changes nothing but what is LEFT", LookTest::lookChangesNothingElse);
    }

    private static void hundred() {
        Check.sentence("100 at most: 99, 100 and more", LookTest::atMostAHundred);
        Check.sentence("100 at most, at one place with several WORDS", LookTest::hundredWithinAPlace);
        Check.sentence("later ones are not told: of pages", LookTest::hundredWithinPages);
        Check.sentence("later ones are not told: of USES", LookTest::hundredWithinUses);
        Check.sentence("later ones are not told: of STORES", LookTest::hundredWithinStores);
        Check.sentence("fewer after a hundred", LookTest::fewerAfterAHundred);
    }

    private static void left() {
        Check.sentence("that the latest LOOKING THROUGH found", LookTest::looksAnew);
        Check.sentence("before the first one there is none", LookTest::leftBeforeLook);
        Check.sentence("0 for a page, its number, the place, the WORD, NONE", LookTest::leftOfPages);
        Check.sentence("1 a USE, its number, the place, the WORD, NONE", LookTest::leftOfUses);
        Check.sentence("2 a STORE, its number, the place, the WORD, the ENCODING", LookTest::leftOfStores);
        Check.sentence("IndexOutOfBoundsException: the place", LookTest::noSuchPlace);
        Check.sentence("IndexOutOfBoundsException, also for what", LookTest::noSuchWhat);
        Check.sentence("what is LEFT stays when a call is refused", LookTest::leftAfterRefusals);
    }

    private static void nothingLeft() {
        Check.due("a new object", new RedactCheck().look(), 0);
        RedactCheck x = new RedactCheck();
        Check.signs(x, 0, 0, 0, "abc");
        x.use(0, Check.form(x, 0, 0, "abc"), 0, 0);
        Check.store(x, 0, 'a', 'b', 'c');
        Check.due("no words", x.look(), 0);
        x.word();
        Check.due("a word without codes", x.look(), 0);
        Check.word(x, "ac");
        Check.word(x, "abcd");
        Check.due("words that stand nowhere", x.look(), 0);
        Check.due("told", x.told(5), 0);
        Check.refused("place 0", Check.INDEX, () -> x.left(0, 0));
        Check.word(x, "bc");
        Check.due("one that does", x.look(), 3);
        x.black();
        Check.due("after blacking out", x.look(), 0);
        Check.due("told", x.told(5), 0);
    }

    private static void firstAndLastPlace() {
        RedactCheck x = new RedactCheck();
        Check.word(x, "ab");
        Check.signs(x, 3, 0, 0, "ab" + "x".repeat(36) + "ab");
        x.use(0, Check.form(x, 0, 0, "ab" + "x".repeat(36) + "ab"), 0, 0);
        Check.store(x, 0, Check.bytes("ab" + "x".repeat(56) + "ab"));
        Check.store(x, 0, Check.bytes("6162" + "00".repeat(26) + "6162"));
        Check.due("look", x.look(), 8);
        Check.same("a page's first", Check.leftAt(x, 0), "0 3 0 0 -1");
        Check.same("a page's last", Check.leftAt(x, 1), "0 3 38 0 -1");
        Check.same("a use's first", Check.leftAt(x, 2), "1 0 0 0 -1");
        Check.same("a use's last", Check.leftAt(x, 3), "1 0 38 0 -1");
        Check.same("a store's first", Check.leftAt(x, 4), "2 0 0 0 0");
        Check.same("a store's last", Check.leftAt(x, 5), "2 0 58 0 0");
        Check.same("its first in digits", Check.leftAt(x, 6), "2 1 0 0 3");
        Check.same("its last in digits", Check.leftAt(x, 7), "2 1 28 0 3");
    }

    private static void rowsAreApart() {
        RedactCheck x = new RedactCheck();
        Check.word(x, "ab");
        Check.signs(x, 2, 0, 0, "a");
        Check.signs(x, 3, 0, 0, "ba");
        x.use(0, Check.form(x, 0, 0, "ba"), 0, 0);
        x.use(0, Check.form(x, 0, 0, "ba"), 0, 0);
        Check.store(x, 0, 'b', 'a');
        Check.store(x, 0, 'b', 'a');
        Check.due("look", x.look(), 0);
    }

    private static void usesOfOneForm() {
        RedactCheck x = new RedactCheck();
        Check.word(x, "a");
        int form = Check.form(x, 0, 0, "a");
        for (int i = 0; i < 12; i++) {
            x.use(i % 4, form, 0, 0);
        }
        Check.due("look", x.look(), 12);
        for (int i = 0; i < 12; i++) {
            Check.same("use " + i, Check.leftAt(x, i), "1 " + i + " 0 0 -1");
        }
    }

    private static void formsWithoutUse() {
        RedactCheck x = new RedactCheck();
        Check.word(x, "a");
        int form = Check.form(x, 0, 0, "a");
        Check.due("none", x.look(), 0);
        x.use(0, form, 0, 0);
        Check.due("one", x.look(), 1);
        x.black();
        Check.due("the form that was laid has the word still", x.at(1, form, 0, 0), 'a');
        Check.due("but none lays it", x.look(), 0);
    }

    private static void storesNotWell() {
        RedactCheck x = new RedactCheck();
        Check.word(x, "a");
        Check.store(x, 1, 1, 'b', 0, 'b');
        Check.store(x, 3, Check.bytes("61g1"));
        Check.store(x, 3, Check.bytes("616"));
        Check.store(x, 3, Check.bytes("61"));
        Check.due("look", x.look(), 1);
        Check.same("in digits, all of them so", Check.leftAt(x, 0), "2 3 0 0 3");
        RedactCheck y = new RedactCheck();
        Check.word(y, "a");
        Check.store(y, 1, 0, 'a', 0, 'a', 0);
        Check.due("an odd number is found in encoding 0 alone", y.look(), 2);
        Check.same("the first", Check.leftAt(y, 0), "2 0 1 0 0");
        Check.same("the second", Check.leftAt(y, 1), "2 0 3 0 0");
    }

    private static void emptyStores() {
        RedactCheck x = new RedactCheck();
        Check.word(x, "a");
        for (int encoding = 0; encoding < 4; encoding++) {
            x.store(encoding);
        }
        Check.due("look", x.look(), 0);
        x.octet(3, (byte) 'a');
        Check.due("a byte more", x.look(), 1);
        Check.same("where", Check.leftAt(x, 0), "2 3 0 0 0");
    }

    private static void areasLeaveNothing() {
        RedactCheck x = new RedactCheck();
        Check.signs(x, 0, 0, 0, "a");
        x.area(0, 0, 0, 100, 100);
        Check.due("look", x.look(), 0);
    }

    private static void lookChangesNothingElse() {
        RedactCheck x = new RedactCheck();
        RedactCheck y = new RedactCheck();
        for (RedactCheck each : new RedactCheck[] {x, y}) {
            Check.signs(each, 0, 0, 0, "ab");
            each.use(0, Check.form(each, 0, 0, "ab"), 0, 0);
            Check.word(each, "z");
            Check.store(each, 3, Check.bytes("6a"));
            Check.store(each, 3, Check.bytes("6"));
        }
        x.look();
        Check.same("all", Check.whole(x), Check.whole(y));
    }

    private static void order() {
        RedactCheck x = new RedactCheck();
        Check.store(x, 0, 'a');
        Check.store(x, 1, 'a');
        int form = Check.form(x, 0, 0, "a");
        x.use(3, form, 0, 0);
        x.use(0, form, 0, 0);
        Check.signs(x, 2, 0, 0, "a");
        Check.signs(x, 1, 0, 0, "a");
        Check.word(x, "a");
        Check.due("look", x.look(), 6);
        Check.same("pages first", Check.leftAt(x, 0), "0 1 0 0 -1");
        Check.same("by numbers", Check.leftAt(x, 1), "0 2 0 0 -1");
        Check.same("then uses", Check.leftAt(x, 2), "1 0 0 0 -1");
        Check.same("by numbers", Check.leftAt(x, 3), "1 1 0 0 -1");
        Check.same("then stores", Check.leftAt(x, 4), "2 0 0 0 0");
        Check.same("by numbers, whatever their own encoding", Check.leftAt(x, 5), "2 1 0 0 0");
        Check.due("told", x.told(5), 6);
    }

    private static void placesAndWords() {
        RedactCheck x = new RedactCheck();
        Check.signs(x, 0, 0, 0, "aaab");
        Check.word(x, "aa");
        x.word();
        Check.word(x, "a");
        Check.word(x, "aabc");
        Check.due("look", x.look(), 5);
        Check.same("place 0, lesser word", Check.leftAt(x, 0), "0 0 0 0 -1");
        Check.same("place 0, greater word", Check.leftAt(x, 1), "0 0 0 2 -1");
        Check.same("place 1, over itself", Check.leftAt(x, 2), "0 0 1 0 -1");
        Check.same("place 1, greater word", Check.leftAt(x, 3), "0 0 1 2 -1");
        Check.same("place 2", Check.leftAt(x, 4), "0 0 2 2 -1");
    }

    private static void rowsOfUses() {
        RedactCheck x = new RedactCheck();
        int form = Check.form(x, 0, 0, "ab");
        Check.form(x, 0, 0, "ab");
        x.use(0, form, 0, 0);
        Check.word(x, "b");
        Check.due("forms that no use lays are not looked through", x.look(), 1);
        Check.same("a use", Check.leftAt(x, 0), "1 0 1 0 -1");
        x.black();
        Check.due("the use lays the copy now", x.look(), 0);
        x.use(2, form, 0, 0);
        Check.due("the form has the word still", x.look(), 1);
        Check.same("a use", Check.leftAt(x, 0), "1 1 1 0 -1");
    }

    private static void storesInEveryEncoding() {
        RedactCheck x = new RedactCheck();
        Check.word(x, "6");
        Check.word(x, "a");
        Check.store(x, 0, Check.bytes("6136"));
        Check.due("look", x.look(), 4);
        Check.same("plain", Check.leftAt(x, 0), "2 0 0 0 0");
        Check.same("plain, the last place", Check.leftAt(x, 1), "2 0 3 0 0");
        Check.same("digits, places count codes", Check.leftAt(x, 2), "2 0 0 1 3");
        Check.same("digits", Check.leftAt(x, 3), "2 0 1 0 3");

        RedactCheck y = new RedactCheck();
        Check.word(y, "a");
        Check.store(y, 3, 0, 'b', 0, 'a');
        Check.store(y, 0, 'a', 0);
        Check.store(y, 0, 'a', 0, 'a');
        Check.due("look", y.look(), 6);
        Check.same("plain", Check.leftAt(y, 0), "2 0 3 0 0");
        Check.same("zero first", Check.leftAt(y, 1), "2 0 1 0 1");
        Check.same("plain", Check.leftAt(y, 2), "2 1 0 0 0");
        Check.same("zero second", Check.leftAt(y, 3), "2 1 0 0 2");
        Check.same("an odd number is well in plain alone", Check.leftAt(y, 4), "2 2 0 0 0");
        Check.same("an odd number is well in plain alone", Check.leftAt(y, 5), "2 2 2 0 0");
    }

    private static void atMostAHundred() {
        RedactCheck x = new RedactCheck();
        Check.word(x, "a");
        Check.signs(x, 0, 0, 0, "a".repeat(40));
        Check.signs(x, 1, 0, 0, "a".repeat(40));
        Check.signs(x, 2, 0, 0, "a".repeat(19));
        Check.due("99", x.look(), 99);
        x.sign(2, 97, 0, 0, 1);
        Check.due("100", x.look(), 100);
        x.sign(2, 97, 0, 0, 1);
        x.sign(3, 97, 0, 0, 1);
        Check.due("102, but 100 are told", x.look(), 100);
        Check.due("told", x.told(5), 100);
        Check.same("the hundredth", Check.leftAt(x, 99), "0 2 19 0 -1");
        Check.refused("the next", Check.INDEX, () -> x.left(100, 0));
    }

    private static void looksAnew() {
        RedactCheck x = new RedactCheck();
        Check.signs(x, 0, 0, 0, "aa");
        Check.word(x, "a");
        Check.due("nothing is left before a look", x.told(5), 0);
        x.look();
        Check.due("two", x.told(5), 2);
        x.sign(0, 97, 0, 0, 1);
        Check.due("still the latest look's", x.told(5), 2);
        x.black();
        Check.due("none", x.look(), 0);
        Check.due("told", x.told(5), 0);
        Check.refused("what was left before", Check.INDEX, () -> x.left(0, 0));
        Check.due("look changes no sign", x.many(0, 0), 1);
    }

    private static void hundredWithinAPlace() {
        RedactCheck x = new RedactCheck();
        Check.signs(x, 0, 0, 0, "a".repeat(40));
        Check.word(x, "a");
        Check.word(x, "a");
        Check.word(x, "a");
        Check.due("look", x.look(), 100);
        Check.same("the 99th", Check.leftAt(x, 98), "0 0 32 2 -1");
        Check.same("the 100th, two of its place are not told", Check.leftAt(x, 99), "0 0 33 0 -1");
        Check.refused("the 101st", Check.INDEX, () -> x.left(100, 0));
    }

    private static void hundredWithinPages() {
        RedactCheck x = new RedactCheck();
        for (int page = 0; page < 4; page++) {
            Check.signs(x, page, 0, 0, "a".repeat(page == 0 ? 20 : 40));
        }
        x.use(0, Check.form(x, 0, 0, "a"), 0, 0);
        Check.store(x, 0, 'a');
        Check.word(x, "a");
        Check.due("look", x.look(), 100);
        Check.same("the first", Check.leftAt(x, 0), "0 0 0 0 -1");
        Check.same("the last of page 2", Check.leftAt(x, 99), "0 2 39 0 -1");
        Check.due("told", x.told(5), 100);
    }

    private static void hundredWithinUses() {
        RedactCheck x = new RedactCheck();
        int form = Check.form(x, 0, 0, "a".repeat(9));
        for (int i = 0; i < 12; i++) {
            x.use(0, form, 0, 0);
        }
        Check.signs(x, 3, 0, 0, "a");
        Check.store(x, 0, 'a');
        Check.word(x, "a");
        Check.due("1 + 108 + 1", x.look(), 100);
        Check.same("the page's", Check.leftAt(x, 0), "0 3 0 0 -1");
        Check.same("the last of use 10", Check.leftAt(x, 99), "1 10 8 0 -1");
    }

    private static void hundredWithinStores() {
        RedactCheck x = new RedactCheck();
        Check.store(x, 0, Check.bytes("6".repeat(60)));
        Check.store(x, 1, Check.bytes("6".repeat(60)));
        Check.word(x, "6");
        Check.due("60 in encoding 0, none in 3, then 40 of 60", x.look(), 100);
        Check.same("the last of store 0", Check.leftAt(x, 59), "2 0 59 0 0");
        Check.same("the first of store 1", Check.leftAt(x, 60), "2 1 0 0 0");
        Check.same("the 100th", Check.leftAt(x, 99), "2 1 39 0 0");
        RedactCheck y = new RedactCheck();
        Check.store(y, 0, Check.bytes("66".repeat(30)));
        Check.store(y, 0, Check.bytes("66".repeat(30)));
        Check.word(y, "6");
        Check.word(y, "ff");
        Check.due("60 in encoding 0, 29 in 3, then 11", y.look(), 100);
        Check.same("the last of encoding 0", Check.leftAt(y, 59), "2 0 59 0 0");
        Check.same("the first of encoding 3", Check.leftAt(y, 60), "2 0 0 1 3");
        Check.same("the last of encoding 3", Check.leftAt(y, 88), "2 0 28 1 3");
        Check.same("the 100th", Check.leftAt(y, 99), "2 1 10 0 0");
    }

    private static void fewerAfterAHundred() {
        RedactCheck x = new RedactCheck();
        for (int page = 0; page < 3; page++) {
            Check.signs(x, page, 0, 0, "a".repeat(40));
        }
        Check.word(x, "a");
        Check.due("more than a hundred", x.look(), 100);
        x.black();
        Check.due("none", x.look(), 0);
        Check.refused("place 0", Check.INDEX, () -> x.left(0, 0));
        x.sign(3, 'a', 0, 0, 1);
        Check.due("one", x.look(), 1);
        Check.same("which", Check.leftAt(x, 0), "0 3 0 0 -1");
        Check.refused("place 1", Check.INDEX, () -> x.left(1, 0));
    }

    private static void leftBeforeLook() {
        RedactCheck x = new RedactCheck();
        Check.signs(x, 0, 0, 0, "a");
        Check.word(x, "a");
        Check.refused("place 0", Check.INDEX, () -> x.left(0, 0));
        Check.due("told", x.told(5), 0);
        x.black();
        Check.refused("blacking out is no looking through", Check.INDEX, () -> x.left(0, 0));
    }

    private static void leftOfPages() {
        RedactCheck x = new RedactCheck();
        Check.signs(x, 3, 0, 0, "xya");
        Check.word(x, "b");
        Check.word(x, "a");
        x.look();
        int[] due = {0, 3, 2, 1, RedactCheck.NONE};
        for (int what = 0; what < 5; what++) {
            Check.due("what " + what, x.left(0, what), due[what]);
        }
    }

    private static void leftOfUses() {
        RedactCheck x = new RedactCheck();
        x.form();
        int form = Check.form(x, 0, 0, "xxxa");
        x.use(3, 0, 0, 0);
        x.use(3, 0, 0, 0);
        x.use(3, form, 0, 0);
        Check.word(x, "a");
        x.look();
        int[] due = {1, 2, 3, 0, RedactCheck.NONE};
        for (int what = 0; what < 5; what++) {
            Check.due("what " + what, x.left(0, what), due[what]);
        }
    }

    private static void leftOfStores() {
        for (int encoding = 0; encoding < 4; encoding++) {
            RedactCheck x = new RedactCheck();
            x.store(0);
            int[][] bytes = {{1, 'a'}, {0, 1, 0, 'a'}, {1, 0, 'a', 0}, Check.bytes("0161")};
            Check.store(x, 3 - encoding, bytes[encoding]);
            Check.word(x, "za");
            Check.word(x, "yz");
            Check.word(x, "a");
            int found = x.look();
            int[] due = {2, 1, 1, 2, encoding};
            for (int what = 0; what < 5; what++) {
                Check.due("encoding " + encoding + ", what " + what, x.left(found - 1, what), due[what]);
            }
        }
    }

    private static RedactCheck withTwoLeft() {
        RedactCheck x = new RedactCheck();
        Check.signs(x, 0, 0, 0, "aa");
        Check.word(x, "a");
        x.look();
        return x;
    }

    private static void noSuchPlace() {
        for (int i : new int[] {-1, 2, 99, 100, 101, LEAST, GREATEST}) {
            Check.refusedForNothing("place " + i, Check.INDEX, LookTest::withTwoLeft, o -> o.left(i, 0));
        }
        Check.due("the first", withTwoLeft().left(0, 2), 0);
        Check.due("the last", withTwoLeft().left(1, 2), 1);
    }

    private static void noSuchWhat() {
        for (int what : new int[] {-1, 5, LEAST, GREATEST}) {
            Check.refusedForNothing("what " + what, Check.INDEX, LookTest::withTwoLeft, o -> o.left(0, what));
        }
        Check.due("the least", withTwoLeft().left(1, 0), 0);
        Check.due("the greatest", withTwoLeft().left(1, 4), RedactCheck.NONE);
    }

    private static void leftAfterRefusals() {
        RedactCheck x = withTwoLeft();
        Check.refused("sign", Check.ARGUMENT, () -> x.sign(0, 32, 0, 0, 1));
        Check.refused("left", Check.INDEX, () -> x.left(2, 0));
        Check.due("told", x.told(5), 2);
        Check.same("the first", Check.leftAt(x, 0), "0 0 0 0 -1");
        Check.same("the last", Check.leftAt(x, 1), "0 0 1 0 -1");
    }
}
