import java.util.Arrays;
import java.util.function.Supplier;
import java.util.stream.IntStream;

/**
 * "A call that throws changes nothing; where several exceptions that a call names fit, it is the one that it names
 * first." For each call: every choice of numbers just as told, just not, and far out, with room and without.
 */
public final class RefusalsTest {
    private static final int NO_HOLE = Integer.MIN_VALUE;

    interface CallOfNumbers {
        long answer(RedactCheck x, int[] numbers);
    }

    /** One number of a call: what is due if it is not least .. greatest, or is the hole. */
    record Argument(Class<? extends RuntimeException> refusal, int least, int greatest, int hole) {
        boolean fits(int number) {
            return number >= least && number <= greatest && (hole == NO_HOLE || number != hole);
        }

        int[] tries() {
            return IntStream.of(least - 1, least, greatest, greatest + 1, hole, Integer.MIN_VALUE, Integer.MAX_VALUE).distinct()
                    .toArray();
        }
    }

    private final String name;
    private final Supplier<RedactCheck> made;
    private final boolean full;
    private final CallOfNumbers call;
    private final Argument[] arguments;
    private final String untouched;

    private RefusalsTest(String name, Supplier<RedactCheck> made, boolean full, CallOfNumbers call, Argument... arguments) {
        this.name = name + (full ? ", without room" : "");
        this.made = made;
        this.full = full;
        this.call = call;
        this.arguments = arguments;
        this.untouched = Check.wholeAndOn(made.get());
    }

    public static void main(String[] args) {
        Check.sentence("sign: IndexOutOfBoundsException; IllegalArgumentException; UnsupportedOperationException", RefusalsTest::sign);
        Check.sentence("form: UnsupportedOperationException", RefusalsTest::form);
        Check.sentence("formSign: as sign()", RefusalsTest::formSign);
        Check.sentence("use: IndexOutOfBoundsException; IllegalArgumentException; UnsupportedOperationException", RefusalsTest::use);
        Check.sentence("word: UnsupportedOperationException", RefusalsTest::word);
        Check.sentence("letter: IndexOutOfBoundsException; IllegalArgumentException; UnsupportedOperationException", RefusalsTest::letter);
        Check.sentence("area: IndexOutOfBoundsException; IllegalArgumentException; UnsupportedOperationException", RefusalsTest::area);
        Check.sentence("store: IllegalArgumentException; UnsupportedOperationException", RefusalsTest::store);
        Check.sentence("octet: IndexOutOfBoundsException; UnsupportedOperationException", RefusalsTest::octet);
        Check.sentence("black: UnsupportedOperationException", RefusalsTest::black);
        Check.sentence("left, at, byteOf, formOf, many: IndexOutOfBoundsException", RefusalsTest::telling);
        Check.end();
    }

    private static Argument index(int greatest) {
        return new Argument(Check.INDEX, 0, greatest, NO_HOLE);
    }

    private static Argument number(int least, int greatest) {
        return new Argument(Check.ARGUMENT, least, greatest, NO_HOLE);
    }

    private void everyChoice() {
        choose(new int[arguments.length], 0);
    }

    private void choose(int[] numbers, int i) {
        if (i == arguments.length) {
            ask(numbers);
            return;
        }
        for (int tried : arguments[i].tries()) {
            numbers[i] = tried;
            choose(numbers, i + 1);
        }
    }

    private void ask(int[] numbers) {
        RedactCheck x = made.get();
        String answer = Check.told(() -> call.answer(x, numbers));
        String text = name + Arrays.toString(numbers);
        String due = due(numbers);
        if (due.isEmpty()) {
            Check.due(text + " refused", answer.startsWith("throws.") ? 1 : 0, 0);
        } else {
            Check.same(text, answer, due);
            Check.same("what is there after " + text, Check.wholeAndOn(x), untouched);
        }
    }

    /** What the call throws, or nothing. */
    private String due(int[] numbers) {
        if (isUnfit(numbers, Check.INDEX)) {
            return "throws." + Check.INDEX.getName();
        }
        if (isUnfit(numbers, Check.ARGUMENT)) {
            return "throws." + Check.ARGUMENT.getName();
        }
        return full ? "throws." + Check.UNSUPPORTED.getName() : "";
    }

    private boolean isUnfit(int[] numbers, Class<? extends RuntimeException> refusal) {
        for (int i = 0; i < numbers.length; i++) {
            if (arguments[i].refusal() == refusal && !arguments[i].fits(numbers[i])) {
                return true;
            }
        }
        return false;
    }

    /** Something of each kind, in which look() has found something and black() will. */
    private static RedactCheck some() {
        RedactCheck x = new RedactCheck();
        Check.signs(x, 0, 0, 0, "ab");
        Check.signs(x, 3, 0, 0, "b");
        x.use(1, Check.form(x, 0, 0, "abc"), 5, 6);
        x.use(2, Check.form(x, 0, 0, "c"), 0, 0);
        Check.word(x, "b");
        Check.word(x, "a");
        x.area(2, 0, 0, 10, 10);
        Check.store(x, 0, 'a', 'b', 'c');
        Check.store(x, 3, Check.bytes("6f6"));
        x.look();
        return x;
    }

    private static void sign() {
        CallOfNumbers call = (x, n) -> x.sign(n[0], n[1], n[2], n[3], n[4]);
        Argument[] arguments = {index(3), number(33, 126), number(0, 999), number(0, 999), number(1, 50)};
        new RefusalsTest("sign", RefusalsTest::some, false, call, arguments).everyChoice();
        new RefusalsTest("sign", () -> {
            RedactCheck x = new RedactCheck();
            Check.signs(x, 0, 0, 0, "a".repeat(40));
            Check.signs(x, 3, 0, 0, "b".repeat(40));
            Check.word(x, "a");
            return x;
        }, true, call, arguments).everyChoice();
    }

    private static void form() {
        Check.refusedForNothing("form", Check.UNSUPPORTED, () -> {
            RedactCheck x = some();
            for (int i = x.told(0); i < 20; i++) {
                x.form();
            }
            return x;
        }, RedactCheck::form);
    }

    private static void formSign() {
        CallOfNumbers call = (x, n) -> x.formSign(n[0], n[1], n[2], n[3], n[4]);
        Argument[] numbers = {number(33, 126), number(0, 999), number(0, 999), number(1, 50)};
        new RefusalsTest("formSign", RefusalsTest::some, false, call, index(1), numbers[0], numbers[1], numbers[2], numbers[3])
                .everyChoice();
        new RefusalsTest("formSign without forms", RedactCheck::new, false, call, index(-1), numbers[0], numbers[1], numbers[2],
                numbers[3]).everyChoice();
        new RefusalsTest("formSign", () -> {
            RedactCheck x = new RedactCheck();
            x.use(0, Check.form(x, 0, 0, "a".repeat(40)), 0, 0);
            x.use(0, Check.form(x, 0, 0, "b".repeat(40)), 0, 0);
            Check.word(x, "a");
            return x;
        }, true, call, index(1), numbers[0], numbers[1], numbers[2], numbers[3]).everyChoice();
    }

    private static void use() {
        CallOfNumbers call = (x, n) -> x.use(n[0], n[1], n[2], n[3]);
        new RefusalsTest("use", RefusalsTest::some, false, call, index(3), index(1), number(-999, 999), number(-999, 999))
                .everyChoice();
        new RefusalsTest("use without forms", RedactCheck::new, false, call, index(3), index(-1), number(-999, 999),
                number(-999, 999)).everyChoice();
        new RefusalsTest("use", () -> {
            RedactCheck x = some();
            for (int i = x.told(1); i < 12; i++) {
                x.use(i % 4, i % 2, 10 * i, 0);
            }
            return x;
        }, true, call, index(3), index(1), number(-999, 999), number(-999, 999)).everyChoice();
    }

    private static void word() {
        Check.refusedForNothing("word", Check.UNSUPPORTED, () -> {
            RedactCheck x = some();
            x.word();
            x.word();
            return x;
        }, RedactCheck::word);
    }

    private static void letter() {
        CallOfNumbers call = (x, n) -> x.letter(n[0], n[1]);
        Argument code = new Argument(Check.ARGUMENT, 33, 126, 42);
        new RefusalsTest("letter", RefusalsTest::some, false, call, index(1), code).everyChoice();
        new RefusalsTest("letter without words", RedactCheck::new, false, call, index(-1), code).everyChoice();
        new RefusalsTest("letter", () -> {
            RedactCheck x = new RedactCheck();
            Check.signs(x, 0, 0, 0, "abcdefghijklmnop");
            Check.word(x, "abcdefgh");
            Check.word(x, "ijklmnop");
            return x;
        }, true, call, index(1), code).everyChoice();
    }

    private static void area() {
        CallOfNumbers call = (x, n) -> x.area(n[0], n[1], n[2], n[3], n[4]);
        Argument[] arguments = {index(3), number(-999, 999), number(-999, 999), number(0, 1999), number(0, 1999)};
        new RefusalsTest("area", RefusalsTest::some, false, call, arguments).everyChoice();
        new RefusalsTest("area", () -> {
            RedactCheck x = some();
            for (int i = x.told(3); i < 8; i++) {
                x.area(0, 10, 0, i - 1, 1);
            }
            return x;
        }, true, call, arguments).everyChoice();
    }

    private static void store() {
        CallOfNumbers call = (x, n) -> x.store(n[0]);
        new RefusalsTest("store", RefusalsTest::some, false, call, number(0, 3)).everyChoice();
        new RefusalsTest("store", () -> {
            RedactCheck x = some();
            for (int i = x.told(4); i < 8; i++) {
                x.store(i % 4);
            }
            return x;
        }, true, call, number(0, 3)).everyChoice();
    }

    private static void octet() {
        CallOfNumbers call = (x, n) -> x.octet(n[0], (byte) 97);
        new RefusalsTest("octet", RefusalsTest::some, false, call, index(1)).everyChoice();
        new RefusalsTest("octet without stores", RedactCheck::new, false, call, index(-1)).everyChoice();
        new RefusalsTest("octet", () -> {
            RedactCheck x = new RedactCheck();
            Check.store(x, 0, Check.bytes("a".repeat(60)));
            Check.store(x, 3, Check.bytes("6b".repeat(30)));
            Check.word(x, "k");
            return x;
        }, true, call, index(1)).everyChoice();
    }

    private static void black() {
        Check.refusedForNothing("black", Check.UNSUPPORTED, () -> {
            RedactCheck x = some();
            for (int i = x.told(0); i < 19; i++) {
                x.form();
            }
            return x;
        }, RedactCheck::black);
    }

    private static void telling() {
        new RefusalsTest("left", RefusalsTest::some, false, (x, n) -> x.left(n[0], n[1]), index(6), index(4)).everyChoice();
        new RefusalsTest("left of nothing", RedactCheck::new, false, (x, n) -> x.left(n[0], n[1]), index(-1), index(4)).everyChoice();
        new RefusalsTest("at", RefusalsTest::some, false, (x, n) -> x.at(0, n[0], n[1], n[2]), new Argument(Check.INDEX, 0, 0, NO_HOLE),
                index(1), index(3)).everyChoice();
        new RefusalsTest("at", RefusalsTest::some, false, (x, n) -> x.at(n[0], 1, 0, n[1]), new Argument(Check.INDEX, 1, 1, NO_HOLE),
                index(3)).everyChoice();
        new RefusalsTest("byteOf", RefusalsTest::some, false, (x, n) -> x.byteOf(n[0], n[1]), index(1), index(2)).everyChoice();
        new RefusalsTest("formOf", RefusalsTest::some, false, (x, n) -> x.formOf(n[0]), index(1)).everyChoice();
        new RefusalsTest("many, what", RefusalsTest::some, false, (x, n) -> x.many(n[0], 1), index(3)).everyChoice();
        new RefusalsTest("many, word", RefusalsTest::some, false, (x, n) -> x.many(3, n[0]), index(1)).everyChoice();
    }
}
