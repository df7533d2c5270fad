/** What the tests share: it prints every answer that is not as due, and ends with exit code 1 if there was one. */
final class Check {
    static final Class<? extends RuntimeException> INDEX = IndexOutOfBoundsException.class;
    static final Class<? extends RuntimeException> ARGUMENT = IllegalArgumentException.class;
    static final Class<? extends RuntimeException> UNSUPPORTED = UnsupportedOperationException.class;

    interface Call {
        long answer();
    }

    private static int wrong = 0;
    private static int looked = 0;

    private Check() {
    }

    static void due(String call, long got, long want) {
        looked++;
        if (got != want) {
            wrong++;
            System.out.println(call + " answered " + got + ", due is " + want);
        }
    }

    static void refused(String call, Class<? extends RuntimeException> want, Call made) {
        same(call, told(made), "throws." + want.getName());
    }

    /** A call's answer as text; the exception's exact class, so that a machine's subclass is not taken for the document's. */
    static String told(Call made) {
        try {
            return String.valueOf(made.answer());
        } catch (RuntimeException e) {
            return "throws." + e.getClass().getName();
        }
    }

    static void same(String call, String got, String want) {
        looked++;
        if (!got.equals(want)) {
            wrong++;
            System.out.println(call + " answered " + got + ", due is " + want);
        }
    }

    static void end() {
        System.out.println(looked + " answers, " + wrong + " not as due");
        if (wrong != 0) {
            System.exit(1);
        }
    }

    /** Signs of a page, ten wide, one beside the other. */
    static void signs(RedactCheck x, int page, int atX, int atY, String text) {
        for (int i = 0; i < text.length(); i++) {
            x.sign(page, text.charAt(i), atX + 10 * i, atY, 10);
        }
    }

    static int form(RedactCheck x, int atX, int atY, String text) {
        int form = x.form();
        for (int i = 0; i < text.length(); i++) {
            x.formSign(form, text.charAt(i), atX + 10 * i, atY, 10);
        }
        return form;
    }

    static int word(RedactCheck x, String text) {
        int word = x.word();
        for (int i = 0; i < text.length(); i++) {
            x.letter(word, text.charAt(i));
        }
        return word;
    }

    static int store(RedactCheck x, int encoding, int... bytes) {
        int store = x.store(encoding);
        for (int b : bytes) {
            x.octet(store, (byte) b);
        }
        return store;
    }

    static int[] bytes(String text) {
        return text.chars().toArray();
    }

    /** A row of signs as text: code, place and width of each. */
    static String row(RedactCheck x, int of, int number) {
        StringBuilder text = new StringBuilder();
        for (int i = 0; i < x.many(of, number); i++) {
            text.append(x.at(of, number, i, 0)).append('@').append(x.at(of, number, i, 1)).append(',')
                    .append(x.at(of, number, i, 2)).append('+').append(x.at(of, number, i, 3)).append(' ');
        }
        return text.toString().trim();
    }

    static String bytesOf(RedactCheck x, int store) {
        StringBuilder text = new StringBuilder();
        for (int i = 0; i < x.many(2, store); i++) {
            text.append(x.byteOf(store, i)).append(' ');
        }
        return text.toString().trim();
    }

    static String leftAt(RedactCheck x, int i) {
        StringBuilder text = new StringBuilder();
        for (int what = 0; what < 5; what++) {
            text.append(x.left(i, what)).append(' ');
        }
        return text.toString().trim();
    }

    /** All that the face tells of an object. */
    static String whole(RedactCheck x) {
        StringBuilder text = new StringBuilder();
        for (int what = 0; what < 6; what++) {
            text.append(x.told(what)).append(' ');
        }
        for (int page = 0; page < 4; page++) {
            text.append("\npage ").append(row(x, 0, page));
        }
        for (int form = 0; form < x.told(0); form++) {
            text.append("\nform ").append(row(x, 1, form));
        }
        for (int use = 0; use < x.told(1); use++) {
            text.append("\nuse ").append(x.formOf(use));
        }
        for (int word = 0; word < x.told(2); word++) {
            text.append("\nword ").append(x.many(3, word));
        }
        for (int store = 0; store < x.told(4); store++) {
            text.append("\nstore ").append(bytesOf(x, store));
        }
        for (int i = 0; i < x.told(5); i++) {
            text.append("\nleft ").append(leftAt(x, i));
        }
        return text.toString();
    }
}
