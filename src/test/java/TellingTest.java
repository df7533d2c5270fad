/** Promises 14 to 18: the calls that tell. */
public final class TellingTest {
    private static final int LEAST = Integer.MIN_VALUE;
    private static final int GREATEST = Integer.MAX_VALUE;

    private TellingTest() {
    }

    public static void main(String[] args) {
        at();
        byteOf();
        formOf();
        many();
        told();
        Check.end();
    }

    /** Promise 14. */
    private static void at() {
        RedactCheck x = new RedactCheck();
        Check.refused("at, no form yet", Check.INDEX, () -> x.at(1, 0, 0, 0));
        x.sign(1, 70, 11, 12, 13);
        x.sign(1, 71, 21, 22, 23);
        x.form();
        x.formSign(0, 80, 31, 32, 33);
        int[] second = {71, 21, 22, 23};
        int[] ofForm = {80, 31, 32, 33};
        for (int what = 0; what < 4; what++) {
            Check.due("at, page", x.at(0, 1, 1, what), second[what]);
            Check.due("at, form", x.at(1, 0, 0, what), ofForm[what]);
        }
        for (int of : new int[] {-1, 2, LEAST, GREATEST}) {
            Check.refused("at, of " + of, Check.INDEX, () -> x.at(of, 0, 0, 0));
        }
        for (int number : new int[] {-1, 4, LEAST, GREATEST}) {
            Check.refused("at, page " + number, Check.INDEX, () -> x.at(0, number, 0, 0));
        }
        for (int number : new int[] {-1, 1, LEAST, GREATEST}) {
            Check.refused("at, form " + number, Check.INDEX, () -> x.at(1, number, 0, 0));
        }
        for (int i : new int[] {-1, 2, 39, 40, LEAST, GREATEST}) {
            Check.refused("at, sign " + i, Check.INDEX, () -> x.at(0, 1, i, 0));
        }
        for (int what : new int[] {-1, 4, LEAST, GREATEST}) {
            Check.refused("at, what " + what, Check.INDEX, () -> x.at(0, 1, 0, what));
        }
        x.area(1, 0, 0, 500, 500);
        x.black();
        Check.same("a gap of two", Check.row(x, 0, 1), "0@11,12+100");
        Check.refused("at, a sign that went", Check.INDEX, () -> x.at(0, 1, 1, 0));
    }

    /** Promise 15. */
    private static void byteOf() {
        RedactCheck x = new RedactCheck();
        Check.refused("byteOf, no store yet", Check.INDEX, () -> x.byteOf(0, 0));
        Check.store(x, 0, 5);
        Check.store(x, 0, 0, 127, -128, 255);
        Check.due("byteOf", x.byteOf(1, 0), 0);
        Check.due("byteOf", x.byteOf(1, 1), 127);
        Check.due("byteOf", x.byteOf(1, 2), -128);
        Check.due("byteOf", x.byteOf(1, 3), -1);
        for (int store : new int[] {-1, 2, LEAST, GREATEST}) {
            Check.refused("byteOf, store " + store, Check.INDEX, () -> x.byteOf(store, 0));
        }
        for (int i : new int[] {-1, 4, 59, 60, LEAST, GREATEST}) {
            Check.refused("byteOf, byte " + i, Check.INDEX, () -> x.byteOf(1, i));
        }
        Check.word(x, "~");
        x.octet(0, (byte) '~');
        x.octet(0, (byte) '~');
        x.black();
        Check.same("bytes that are cut", Check.bytesOf(x, 0), "5 42");
        Check.refused("byteOf, a byte that went", Check.INDEX, () -> x.byteOf(0, 2));
    }

    /** Promise 16. */
    private static void formOf() {
        RedactCheck x = new RedactCheck();
        Check.refused("formOf, no use yet", Check.INDEX, () -> x.formOf(0));
        x.form();
        int form = Check.form(x, 0, 0, "a");
        x.use(0, form, 0, 0);
        Check.due("formOf", x.formOf(0), 1);
        for (int use : new int[] {-1, 1, LEAST, GREATEST}) {
            Check.refused("formOf, use " + use, Check.INDEX, () -> x.formOf(use));
        }
        Check.word(x, "a");
        x.black();
        Check.due("formOf, the copy now", x.formOf(0), 2);
    }

    /** Promise 17. */
    private static void many() {
        RedactCheck x = new RedactCheck();
        for (int what = 1; what < 4; what++) {
            int kind = what;
            Check.refused("many, none of kind " + what, Check.INDEX, () -> x.many(kind, 0));
        }
        Check.signs(x, 3, 0, 0, "a");
        Check.form(x, 0, 0, "bb");
        Check.store(x, 1, 0, 0, 0);
        Check.word(x, "cccc");
        Check.due("many, page", x.many(0, 3), 1);
        Check.due("many, form", x.many(1, 0), 2);
        Check.due("many, store", x.many(2, 0), 3);
        Check.due("many, word", x.many(3, 0), 4);
        for (int what : new int[] {-1, 4, 5, LEAST, GREATEST}) {
            Check.refused("many, what " + what, Check.INDEX, () -> x.many(what, 0));
        }
        for (int number : new int[] {-1, 4, LEAST, GREATEST}) {
            for (int what = 0; what < 4; what++) {
                int kind = what;
                Check.refused("many, number " + number, Check.INDEX, () -> x.many(kind, number));
            }
        }
        for (int what = 1; what < 4; what++) {
            int kind = what;
            Check.refused("many, behind the last", Check.INDEX, () -> x.many(kind, 1));
        }
    }

    /** Promise 18. */
    private static void told() {
        RedactCheck x = new RedactCheck();
        x.form();
        for (int i = 0; i < 2; i++) {
            x.use(0, 0, 0, 0);
        }
        for (int i = 0; i < 3; i++) {
            Check.word(x, "a");
        }
        for (int i = 0; i < 4; i++) {
            x.area(0, 0, 0, 0, 0);
        }
        for (int i = 0; i < 5; i++) {
            x.store(0);
        }
        Check.signs(x, 0, 0, 0, "aa");
        x.look();
        for (int what = 0; what < 6; what++) {
            Check.due("told " + what, x.told(what), what + 1);
        }
        for (int what : new int[] {-1, 6, 7, LEAST, GREATEST}) {
            Check.due("told " + what, x.told(what), RedactCheck.NONE);
        }
    }
}
