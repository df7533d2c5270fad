import java.util.function.Supplier;

/** What the tests share: it prints every answer that is not as due, and ends with exit code 1 if there was one. */
final class Check {
    static final Class<? extends RuntimeException> INDEX = IndexOutOfBoundsException.class;
    static final Class<? extends RuntimeException> ARGUMENT = IllegalArgumentException.class;
    static final Class<? extends RuntimeException> UNSUPPORTED = UnsupportedOperationException.class;

    interface Call {
        long answer();
    }

    interface CallOf {
        long answer(RedactCheck x);
    }

    private static int wrong = 0;
    private static int looked = 0;
    private static int sentences = 0;

    private Check() {
    }

    /** A test of its own for what one sentence of the document says: it is named when it does not hold. */
    static void sentence(String words, Runnable test) {
        sentences++;
        int before = wrong;
        try {
            test.run();
        } catch (RuntimeException e) {
            wrong++;
            System.out.println("the test was ended by " + e);
        }
        if (wrong > before) {
            System.out.println("NOT HELD: " + words);
        }
    }

    static void due(String call, long got, long want) {
        looked++;
        if (got != want) {
            wrong++;
            System.out.println(call + " answered " + got + ", due is " + want);
        }
    }

    static void refused(String call, Class<? extends RuntimeException> want, Call made) {
        same(call, told(made), "throws." + want.getName());
    }

    /** A call that is due to be refused, and after which an object is as one that was never asked. */
    static void refusedForNothing(String call, Class<? extends RuntimeException> want, Supplier<RedactCheck> made, CallOf asked) {
        RedactCheck x = made.get();
        refused(call, want, () -> asked.answer(x));
        same("what is there after " + call, wholeAndOn(x), wholeAndOn(made.get()));
    }

    /** A call's answer as text; the exception's exact class, so that a machine's subclass is not taken for the document's. */
    static String told(Call made) {
        try {
            return String.valueOf(made.answer());
        } catch (RuntimeException e) {
            return "throws." + e.getClass().getName() + (isOfLibrary(e) ? " of the library" : "");
        }
    }

    /** The class must throw by itself: what a list of the library throws is of the right class at times. */
    private static boolean isOfLibrary(RuntimeException e) {
        StackTraceElement[] trace = e.getStackTrace();
        return trace.length > 0 && (trace[0].getClassName().startsWith("java.") || trace[0].getClassName().startsWith("jdk."));
    }

    static void same(String call, String got, String want) {
        looked++;
        if (!got.equals(want)) {
            wrong++;
            System.out.println(call + " answered " + got + ", due is " + want);
        }
    }

    static void end() {
        System.out.println((sentences > 0 ? sentences + " sentences, " : "") + looked + " answers, " + wrong + " not as due");
        if (wrong != 0) {
            System.exit(1);
        }
    }

    /** Signs of a page, ten wide, one beside the other. */
    static void signs(RedactCheck x, int page, int atX, int atY, String text) {
        for (int i = 0; i < text.length(); i++) {
            x.sign(page, text.charAt(i), atX + 10 * i, atY, 10);
        }
    }

    static int form(RedactCheck x, int atX, int atY, String text) {
        int form = x.form();
        for (int i = 0; i < text.length(); i++) {
            x.formSign(form, text.charAt(i), atX + 10 * i, atY, 10);
        }
        return form;
    }

    static int word(RedactCheck x, String text) {
        int word = x.word();
        for (int i = 0; i < text.length(); i++) {
            x.letter(word, text.charAt(i));
        }
        return word;
    }

    static int store(RedactCheck x, int encoding, int... bytes) {
        int store = x.store(encoding);
        for (int b : bytes) {
            x.octet(store, (byte) b);
        }
        return store;
    }

    static int[] bytes(String text) {
        return text.chars().toArray();
    }

    /** A row of signs as text: code, place and width of each. */
    static String row(RedactCheck x, int of, int number) {
        StringBuilder text = new StringBuilder();
        int count = x.many(of, number);
        for (int i = 0; i < count; i++) {
            text.append(x.at(of, number, i, 0)).append('@').append(x.at(of, number, i, 1)).append(',')
                    .append(x.at(of, number, i, 2)).append('+').append(x.at(of, number, i, 3)).append(' ');
        }
        return text.toString().trim();
    }

    static String bytesOf(RedactCheck x, int store) {
        StringBuilder text = new StringBuilder();
        int count = x.many(2, store);
        for (int i = 0; i < count; i++) {
            text.append(x.byteOf(store, i)).append(' ');
        }
        return text.toString().trim();
    }

    static String leftAt(RedactCheck x, int i) {
        StringBuilder text = new StringBuilder();
        for (int what = 0; what < 5; what++) {
            text.append(x.left(i, what)).append(' ');
        }
        return text.toString().trim();
    }

    /** All that the face tells of an object. */
    static String whole(RedactCheck x) {
        StringBuilder text = new StringBuilder();
        for (int what = 0; what < 6; what++) {
            text.append(x.told(what)).append(' ');
        }
        for (int page = 0; page < 4; page++) {
            text.append("\npage ").append(row(x, 0, page));
        }
        for (int form = 0; form < x.told(0); form++) {
            text.append("\nform ").append(row(x, 1, form));
        }
        for (int use = 0; use < x.told(1); use++) {
            text.append("\nuse ").append(x.formOf(use));
        }
        for (int word = 0; word < x.told(2); word++) {
            text.append("\nword ").append(x.many(3, word));
        }
        for (int store = 0; store < x.told(4); store++) {
            text.append("\nstore ").append(bytesOf(x, store));
        }
        for (int i = 0; i < x.told(5); i++) {
            text.append("\nleft ").append(leftAt(x, i));
        }
        return text.toString();
    }

    /** The whole, and what comes of it: words' letters, areas' places and encodings show only by that. */
    static String wholeAndOn(RedactCheck x) {
        StringBuilder text = new StringBuilder(whole(x));
        text.append("\nlook ").append(told(x::look));
        for (int i = 0; i < x.told(5); i++) {
            text.append("\nleft ").append(leftAt(x, i));
        }
        text.append("\nblack ").append(told(x::black)).append('\n').append(whole(x));
        return text.toString();
    }
}
