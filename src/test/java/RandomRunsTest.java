/** Runs of calls that a fixed row of numbers chooses, each answer compared with the plain model's (promises 1 to 18). */
public final class RandomRunsTest {
    private static final int RUNS = 1500;
    private static final int CALLS = 300;
    private static final int[] EDGES = {-1, 0, 1, 2, 3, 4, 7, 8, 12, 20, 32, 33, 40, 42, 50, 51, 60, 99, 100, 126, 127,
        -999, -1000, 999, 1000, 1999, 2000, Integer.MIN_VALUE, Integer.MAX_VALUE};

    private long state;
    private RedactCheck real;
    private PlainModel model;

    private RandomRunsTest(long seed) {
        state = seed;
        real = new RedactCheck();
        model = new PlainModel();
    }

    public static void main(String[] args) {
        for (int run = 0; run < RUNS; run++) {
            new RandomRunsTest(run * 7919L + 1).go(run);
        }
        Check.end();
    }

    private int next(int bound) {
        state = state * 6364136223846793005L + 1442695040888963407L;
        return (int) ((state >>> 33) % bound);
    }

    /** Mostly a number of 0 .. bound - 1, at times one from the edges. */
    private int near(int bound) {
        return next(40) == 0 ? EDGES[next(EDGES.length)] : next(bound);
    }

    private int code() {
        return next(60) == 0 ? EDGES[next(EDGES.length)] : 97 + next(3);
    }

    private void go(int run) {
        boolean rare = run % 3 == 0;
        for (int i = 0; i < CALLS; i++) {
            one("run " + run + " call " + i, rare);
        }
        Check.same("run " + run + " at its end", Check.whole(real), model.whole());
    }

    private void one(String name, boolean rare) {
        int a = near(4);
        int c = code();
        int x = near(60);
        int y = near(30);
        int w = 1 + near(12);
        switch (next(rare ? 80 : 30)) {
            case 0:
                both(name + " form", () -> real.form(), () -> model.form());
                break;
            case 1:
                both(name + " use", () -> real.use(a, w, x - 30, y - 15), () -> model.use(a, w, x - 30, y - 15));
                break;
            case 2:
                both(name + " word", () -> real.word(), () -> model.word());
                break;
            case 3:
                both(name + " letter", () -> real.letter(a, c), () -> model.letter(a, c));
                break;
            case 4:
                both(name + " area", () -> real.area(a, x - 20, y - 10, w, y), () -> model.area(a, x - 20, y - 10, w, y));
                break;
            case 5:
                both(name + " store", () -> real.store(a), () -> model.store(a));
                break;
            case 6:
                both(name + " black", () -> real.black(), () -> model.black());
                Check.same(name + " after black", Check.whole(real), model.whole());
                break;
            case 7:
                both(name + " look", () -> real.look(), () -> model.look());
                Check.same(name + " after look", Check.whole(real), model.whole());
                break;
            default:
                fill(name, a, c, x, y, w);
                break;
        }
    }

    private void fill(String name, int a, int c, int x, int y, int w) {
        int kind = next(3);
        int form = near(6);
        if (kind == 0) {
            both(name + " sign", () -> real.sign(a, c, x, y, w), () -> model.sign(model.pages, a, c, x, y, w));
        } else if (kind == 1) {
            both(name + " formSign", () -> real.formSign(form, c, x, y, w), () -> model.sign(model.forms, form, c, x, y, w));
        } else {
            fillStore(name, near(8));
        }
    }

    /** Bytes that are mostly well in the store's own encoding, at times in another. */
    private void fillStore(String name, int store) {
        int as = store >= 0 && store < model.encodings.size() ? model.encodings.get(store)[0] : 0;
        int shape = next(12) == 0 ? next(4) : as;
        int code = next(5) == 0 ? next(256) : 97 + next(3);
        String digits = String.format(next(2) == 0 ? "%02x" : "%02X", code);
        if (shape == 0) {
            octet(name, store, code);
        } else if (shape == 3) {
            octet(name, store, digits.charAt(0));
            octet(name, store, digits.charAt(1));
        } else {
            octet(name, store, shape == 1 ? 0 : code);
            octet(name, store, shape == 1 ? code : 0);
        }
    }

    private void octet(String name, int store, int b) {
        both(name + " octet", () -> real.octet(store, (byte) b), () -> model.octet(store, (byte) b));
    }

    private static void both(String name, Check.Call real, Check.Call model) {
        Check.same(name, Check.told(real), Check.told(model));
    }
}
