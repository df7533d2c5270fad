/** Promises 12 and 13: looking through, and what is left. */
public final class LookTest {
    private LookTest() {
    }

    public static void main(String[] args) {
        order();
        placesAndWords();
        rowsOfUses();
        storesInEveryEncoding();
        atMostAHundred();
        looksAnew();
        wrongNumbers();
        Check.end();
    }

    private static void order() {
        RedactCheck x = new RedactCheck();
        Check.store(x, 0, 'a');
        Check.store(x, 1, 'a');
        int form = Check.form(x, 0, 0, "a");
        x.use(3, form, 0, 0);
        x.use(0, form, 0, 0);
        Check.signs(x, 2, 0, 0, "a");
        Check.signs(x, 1, 0, 0, "a");
        Check.word(x, "a");
        Check.due("look", x.look(), 6);
        Check.same("pages first", Check.leftAt(x, 0), "0 1 0 0 -1");
        Check.same("by numbers", Check.leftAt(x, 1), "0 2 0 0 -1");
        Check.same("then uses", Check.leftAt(x, 2), "1 0 0 0 -1");
        Check.same("by numbers", Check.leftAt(x, 3), "1 1 0 0 -1");
        Check.same("then stores", Check.leftAt(x, 4), "2 0 0 0 0");
        Check.same("by numbers, whatever their own encoding", Check.leftAt(x, 5), "2 1 0 0 0");
        Check.due("told", x.told(5), 6);
    }

    private static void placesAndWords() {
        RedactCheck x = new RedactCheck();
        Check.signs(x, 0, 0, 0, "aaab");
        Check.word(x, "aa");
        x.word();
        Check.word(x, "a");
        Check.word(x, "aabc");
        Check.due("look", x.look(), 5);
        Check.same("place 0, lesser word", Check.leftAt(x, 0), "0 0 0 0 -1");
        Check.same("place 0, greater word", Check.leftAt(x, 1), "0 0 0 2 -1");
        Check.same("place 1, over itself", Check.leftAt(x, 2), "0 0 1 0 -1");
        Check.same("place 1, greater word", Check.leftAt(x, 3), "0 0 1 2 -1");
        Check.same("place 2", Check.leftAt(x, 4), "0 0 2 2 -1");
    }

    private static void rowsOfUses() {
        RedactCheck x = new RedactCheck();
        int form = Check.form(x, 0, 0, "ab");
        Check.form(x, 0, 0, "ab");
        x.use(0, form, 0, 0);
        Check.word(x, "b");
        Check.due("forms that no use lays are not looked through", x.look(), 1);
        Check.same("a use", Check.leftAt(x, 0), "1 0 1 0 -1");
        x.black();
        Check.due("the use lays the copy now", x.look(), 0);
        x.use(2, form, 0, 0);
        Check.due("the form has the word still", x.look(), 1);
        Check.same("a use", Check.leftAt(x, 0), "1 1 1 0 -1");
    }

    private static void storesInEveryEncoding() {
        RedactCheck x = new RedactCheck();
        Check.word(x, "6");
        Check.word(x, "a");
        Check.store(x, 0, Check.bytes("6136"));
        Check.due("look", x.look(), 4);
        Check.same("plain", Check.leftAt(x, 0), "2 0 0 0 0");
        Check.same("plain, the last place", Check.leftAt(x, 1), "2 0 3 0 0");
        Check.same("digits, places count codes", Check.leftAt(x, 2), "2 0 0 1 3");
        Check.same("digits", Check.leftAt(x, 3), "2 0 1 0 3");

        RedactCheck y = new RedactCheck();
        Check.word(y, "a");
        Check.store(y, 3, 0, 'b', 0, 'a');
        Check.store(y, 0, 'a', 0);
        Check.store(y, 0, 'a', 0, 'a');
        Check.due("look", y.look(), 6);
        Check.same("plain", Check.leftAt(y, 0), "2 0 3 0 0");
        Check.same("zero first", Check.leftAt(y, 1), "2 0 1 0 1");
        Check.same("plain", Check.leftAt(y, 2), "2 1 0 0 0");
        Check.same("zero second", Check.leftAt(y, 3), "2 1 0 0 2");
        Check.same("an odd number is well in plain alone", Check.leftAt(y, 4), "2 2 0 0 0");
        Check.same("an odd number is well in plain alone", Check.leftAt(y, 5), "2 2 2 0 0");
    }

    private static void atMostAHundred() {
        RedactCheck x = new RedactCheck();
        Check.word(x, "a");
        Check.signs(x, 0, 0, 0, "a".repeat(40));
        Check.signs(x, 1, 0, 0, "a".repeat(40));
        Check.signs(x, 2, 0, 0, "a".repeat(19));
        Check.due("99", x.look(), 99);
        x.sign(2, 97, 0, 0, 1);
        Check.due("100", x.look(), 100);
        x.sign(2, 97, 0, 0, 1);
        x.sign(3, 97, 0, 0, 1);
        Check.due("102, but 100 are told", x.look(), 100);
        Check.due("told", x.told(5), 100);
        Check.same("the hundredth", Check.leftAt(x, 99), "0 2 19 0 -1");
        Check.refused("the next", Check.INDEX, () -> x.left(100, 0));
    }

    private static void looksAnew() {
        RedactCheck x = new RedactCheck();
        Check.signs(x, 0, 0, 0, "aa");
        Check.word(x, "a");
        Check.due("nothing is left before a look", x.told(5), 0);
        x.look();
        Check.due("two", x.told(5), 2);
        x.sign(0, 97, 0, 0, 1);
        Check.due("still the latest look's", x.told(5), 2);
        x.black();
        Check.due("none", x.look(), 0);
        Check.due("told", x.told(5), 0);
        Check.refused("what was left before", Check.INDEX, () -> x.left(0, 0));
        Check.due("look changes no sign", x.many(0, 0), 1);
    }

    private static void wrongNumbers() {
        RedactCheck x = new RedactCheck();
        Check.refused("left, nothing is left", Check.INDEX, () -> x.left(0, 0));
        Check.signs(x, 0, 0, 0, "a");
        Check.word(x, "a");
        x.look();
        for (int i : new int[] {-1, 1, 99, 100, Integer.MIN_VALUE, Integer.MAX_VALUE}) {
            Check.refused("left, place " + i, Check.INDEX, () -> x.left(i, 0));
        }
        for (int what : new int[] {-1, 5, Integer.MIN_VALUE, Integer.MAX_VALUE}) {
            Check.refused("left, what " + what, Check.INDEX, () -> x.left(0, what));
        }
    }
}
