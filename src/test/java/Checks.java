import java.util.NoSuchElementException;

/** Counts the answers that are not as due; each test prints them and ends with exit code 1 if there was one. */
final class Checks {
    interface Call {
        Object make();
    }

    interface Numbered {
        Object make(int number);
    }

    static final Class<?> BOUNDS = IndexOutOfBoundsException.class;
    static final Class<?> ARGUMENT = IllegalArgumentException.class;
    static final Class<?> STATE = IllegalStateException.class;
    static final Class<?> REFUSED = UnsupportedOperationException.class;
    static final Class<?> MISSING = NoSuchElementException.class;
    static final Class<?> ARITHMETIC = ArithmeticException.class;

    private static int made = 0;
    private static int wrong = 0;
    private static int promise = 0;
    private static String sentence = "";

    static void promise(int number) {
        promise = number;
        sentence = "";
    }

    /** The sentence of the document whose edges the checks behind this try. */
    static void sentence(String text) {
        sentence = ", " + text;
    }

    static void same(String what, Object got, Object want) {
        made++;
        if (!want.equals(got)) {
            wrong++;
            System.out.println("promise " + promise + sentence + ": " + what + " answered " + got + ", due is " + want);
        }
    }

    static void fails(String what, Class<?> due, Call call) {
        same(what, outcome(call), due);
    }

    /** What the call answers, or the class of the exception that it throws. */
    static Object outcome(Call call) {
        try {
            return call.make();
        } catch (RuntimeException e) {
            return e.getClass();
        }
    }

    /** Numbers outside the range throw, those inside do not throw that; the call takes a new object each time. */
    static void range(String what, Class<?> outside, int least, int most, Numbered call) {
        for (int number = least; number <= most; number++) {
            int inside = number;
            same(what + " " + number + " is out of range", outside.equals(outcome(() -> call.make(inside))), false);
        }
        for (int number : new int[] {least - 1, most + 1, -least - 2, -most - 1, least - 256, most + 65536,
            Integer.MIN_VALUE, Integer.MAX_VALUE}) {
            fails(what + " " + number, outside, () -> call.make(number));
        }
    }

    /** The call is refused for the reason with the detail, and the reason has no cause. */
    static void refused(String what, CoatPledges x, int reason, int detail, Call call) {
        fails(what, REFUSED, call);
        same(what + ": reason", x.refusal(false, false), reason);
        same(what + ": detail", x.refusal(false, true), detail);
        fails(what + ": cause", MISSING, () -> x.refusal(true, false));
        fails(what + ": detail of the cause", MISSING, () -> x.refusal(true, true));
    }

    static void type(CoatPledges x, String text) {
        for (char c : text.toCharArray()) {
            x.append(c);
        }
    }

    /** The text has its error at the place. */
    static void error(String text, int place) {
        CoatPledges x = new CoatPledges();
        x.pledge(0, 100, 60);
        type(x, text);
        fails("run of " + text, ARGUMENT, x::run);
        same("errorPosition of " + text, x.errorPosition(), place);
        same("input behind " + text, x.account(14), 0);
        same("pledges behind " + text, x.account(1), 1);
        same("changes behind " + text, x.account(15), 1);
        fails("refusal behind " + text, MISSING, () -> x.refusal(false, false));
    }

    /** The text is refused for its order of the number, by the cause with the detail. */
    static void textRefused(CoatPledges x, String text, int order, int cause, int detail) {
        type(x, text);
        fails("run of " + text, REFUSED, x::run);
        same("reason of " + text, x.refusal(false, false), 11);
        same("order of " + text, x.refusal(false, true), order);
        same("cause of " + text, x.refusal(true, false), cause);
        same("detail of the cause of " + text, x.refusal(true, true), detail);
        same("errorPosition of " + text, x.errorPosition(), -1);
        same("input behind " + text, x.account(14), 0);
    }

    static String lineOf(CoatPledges x, int ticket) {
        int length = x.line(ticket);
        StringBuilder text = new StringBuilder();
        for (int i = 0; i < length; i++) {
            text.append(x.character(i));
        }
        return text.toString();
    }

    /** All that changes can change, as far as the face tells it. */
    static String stateOf(CoatPledges x) {
        StringBuilder text = new StringBuilder();
        for (int what = 0; what <= 13; what++) {
            text.append(x.account(what)).append(' ');
        }
        for (int ticket = 0; ticket < x.account(1); ticket++) {
            for (int what = 0; what <= 8; what++) {
                text.append(x.pledgeOf(ticket, what)).append(',');
            }
        }
        for (int owner = 0; owner < 6; owner++) {
            for (int what = 0; what <= 6; what++) {
                text.append(x.ownerOf(owner, what)).append(';');
            }
        }
        for (int place = 0; place < x.account(3); place++) {
            text.append(x.lotAt(place)).append('/').append(x.ranked(place)).append(' ');
        }
        return text.append(x.cash(false)).append(' ').append(x.cash(true)).toString();
    }

    static void end(String name) {
        System.out.println(name + ": " + made + " answers, " + wrong + " not as due");
        if (wrong != 0 || made == 0) {
            System.exit(1);
        }
    }

    private Checks() {
    }
}
