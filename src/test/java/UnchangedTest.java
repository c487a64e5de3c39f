import java.util.ArrayList;
import java.util.List;
import java.util.function.Supplier;

/**
 * A method that throws leaves the state unchanged: each call that throws is made on a bank, and whatever can be told
 * of this bank afterwards, by undo, restore and run as well, is told of one like it on which it was not made.
 */
public final class UnchangedTest {
    private interface Probe {
        Object tell(CoatPledges x);
    }

    /** What tells of all that changes can change, and of what undo and restore bring back. */
    private static final List<Probe> STATES = new ArrayList<>();
    /** What tells of all the rest, too. */
    private static final List<Probe> ALL = new ArrayList<>();

    public static void main(String[] args) {
        probes();
        wrongNumbers();
        refusedChanges();
        refusedForCash();
        otherStates();
        emptyBank();
        fullInput();
        texts();
        Checks.end("UnchangedTest");
    }

    private static void probes() {
        STATES.add(Checks::stateOf);
        for (int undone = 1; undone <= 8; undone++) {
            int times = undone;
            STATES.add(x -> {
                for (int n = 0; n < times; n++) {
                    Checks.outcome(x::undo);
                }
                return Checks.stateOf(x);
            });
        }
        STATES.add(x -> Checks.outcome(x::restore) + " " + Checks.stateOf(x));
        ALL.addAll(STATES);
        ALL.add(UnchangedTest::restOf);
        ALL.add(x -> Checks.outcome(x::undo) + " " + x.account(15));
        ALL.add(x -> Checks.outcome(x::run) + " " + x.errorPosition() + " " + Checks.stateOf(x));
    }

    /** What changes cannot change, but for the reason. */
    private static String restOf(CoatPledges x) {
        StringBuilder text = new StringBuilder();
        for (int index = 0; index < 20; index++) {
            int at = index;
            text.append(Checks.outcome(() -> x.character(at)));
        }
        return text.append(' ').append(x.account(14)).append(' ').append(x.account(15)).append(' ')
            .append(x.errorPosition()).toString();
    }

    private static String reasonOf(CoatPledges x) {
        StringBuilder text = new StringBuilder();
        for (int n = 0; n < 4; n++) {
            int flags = n;
            text.append(Checks.outcome(() -> x.refusal(flags > 1, flags % 2 == 1))).append(' ');
        }
        return text.toString();
    }

    private static void stays(String what, Class<?> due, Supplier<CoatPledges> bank, Probe call) {
        for (int n = 0; n < ALL.size(); n++) {
            CoatPledges x = bank.get();
            Checks.fails(what, due, () -> call.tell(x));
            Checks.same("what probe " + n + " tells behind " + what, ALL.get(n).tell(x), ALL.get(n).tell(bank.get()));
        }
        if (due != Checks.REFUSED) {
            CoatPledges x = bank.get();
            Checks.outcome(() -> call.tell(x));
            Checks.same("the reason behind " + what, reasonOf(x), reasonOf(bank.get()));
        }
    }

    private static void wrongNumbers() {
        Checks.sentence("A method that throws an exception leaves the state unchanged");
        Supplier<CoatPledges> worn = Banks::worn;
        stays("pledge of no owner", Checks.BOUNDS, worn, x -> x.pledge(6, 10, 6));
        stays("pledge of no worth", Checks.ARGUMENT, worn, x -> x.pledge(0, 0, 6));
        stays("pledge of no loan", Checks.ARGUMENT, worn, x -> x.pledge(0, 10, 0));
        stays("rate 61", Checks.ARGUMENT, worn, x -> x.rate(61));
        stays("fee 21", Checks.ARGUMENT, worn, x -> x.fee(21));
        stays("pass 21", Checks.ARGUMENT, worn, x -> x.pass(21));
        stays("pass 0", Checks.ARGUMENT, worn, x -> x.pass(0));
        stays("redeem 5", Checks.MISSING, worn, x -> x.redeem(5));
        stays("pay 5", Checks.MISSING, worn, x -> x.pay(5, 1));
        stays("pay 0", Checks.ARGUMENT, worn, x -> x.pay(3, 0));
        stays("renew 5", Checks.MISSING, worn, x -> x.renew(5));
        stays("pledgeOf 5", Checks.MISSING, worn, x -> x.pledgeOf(5, 0));
        stays("pledgeOf 9", Checks.ARGUMENT, worn, x -> x.pledgeOf(0, 9));
        stays("sell 5", Checks.MISSING, worn, x -> x.sell(5, 200));
        stays("sell for 10000", Checks.ARGUMENT, worn, x -> x.sell(1, 10000));
        stays("claim 6", Checks.BOUNDS, worn, x -> x.claim(6));
        stays("lotAt 1", Checks.MISSING, worn, x -> x.lotAt(1));
        stays("ranked 1", Checks.MISSING, worn, x -> x.ranked(1));
        stays("quote 5", Checks.MISSING, worn, x -> x.quote(5, 0));
        stays("quote 21", Checks.ARGUMENT, worn, x -> x.quote(3, 21));
        stays("quote 20", Checks.STATE, worn, x -> x.quote(3, 20));
        stays("quoteAgain 5", Checks.MISSING, worn, x -> x.quoteAgain(5, 0));
        stays("quoteAgain 21", Checks.ARGUMENT, worn, x -> x.quoteAgain(3, 21));
        stays("quoteAgain 20", Checks.STATE, worn, x -> x.quoteAgain(3, 20));
        stays("willBeLots 21", Checks.ARGUMENT, worn, x -> x.willBeLots(21));
        stays("willBeLotsAgain 21", Checks.ARGUMENT, worn, x -> x.willBeLotsAgain(21));
        stays("willReserve 5", Checks.MISSING, worn, x -> x.willReserve(5, 0));
        stays("willReserve 21", Checks.ARGUMENT, worn, x -> x.willReserve(1, 21));
        stays("willReserve of no lot", Checks.STATE, worn, x -> x.willReserve(0, 1));
        stays("ownerOf 6", Checks.BOUNDS, worn, x -> x.ownerOf(6, 0));
        stays("ownerOf what 7", Checks.ARGUMENT, worn, x -> x.ownerOf(0, 7));
        stays("line 5", Checks.MISSING, worn, x -> x.line(5));
        stays("character 20", Checks.BOUNDS, worn, x -> x.character(20));
        stays("refusal", Checks.MISSING, worn, x -> x.refusal(true, false));
        stays("account 16", Checks.ARGUMENT, worn, x -> x.account(16));
    }

    private static void refused(String what, Supplier<CoatPledges> bank, int reason, int detail, Probe call) {
        stays(what, Checks.REFUSED, bank, call);
        CoatPledges x = bank.get();
        Checks.refused(what, x, reason, detail, () -> call.tell(x));
    }

    private static void refusedChanges() {
        Checks.sentence("A refused call leaves the state unchanged");
        Supplier<CoatPledges> worn = Banks::worn;
        refused("too great a loan", worn, 2, 6, x -> x.pledge(0, 10, 7));
        refused("the rate as it is", worn, 10, 30, x -> x.rate(30));
        refused("the fee as it is", worn, 10, 7, x -> x.fee(7));
        for (int ticket = 0; ticket < 3; ticket++) {
            int of = ticket;
            int state = new int[] {3, 1, 2}[ticket];
            refused("redeem", worn, 4, state, x -> x.redeem(of));
            refused("pay", worn, 4, state, x -> x.pay(of, 1));
            refused("renew", worn, 4, state, x -> x.renew(of));
            if (state != 1) {
                refused("sell", worn, 7, state, x -> x.sell(of, 200));
            }
        }
        refused("pay what is owed", worn, 5, 175, x -> x.pay(3, 175));
        refused("renew without interest", worn, 6, 30, x -> x.renew(4));
        refused("sell what is running", worn, 7, 0, x -> x.sell(3, 200));
        refused("sell below the reserve", worn, 8, 128, x -> x.sell(1, 127));
        refused("claim nothing", worn, 9, 0, x -> x.claim(1));
    }

    private static void refusedForCash() {
        Checks.sentence("A refused call leaves the state unchanged");
        refused("17 pledges", Banks::full, 1, 16, x -> x.pledge(0, 10, 6));
        refused("no cash for a loan", Banks::poor, 3, 87, x -> x.pledge(0, 999, 88));
        refused("no cash for a claim", Banks::poor, 3, 87, x -> x.claim(0));
    }

    private static void otherStates() {
        Checks.sentence("A method that throws an exception leaves the state unchanged");
        Supplier<CoatPledges> noLot = () -> Banks.told(9);
        stays("lotAt of no lot", Checks.MISSING, noLot, x -> x.lotAt(0));
        stays("ranked of no lot", Checks.MISSING, noLot, x -> x.ranked(0));
        stays("restore without snapshot", Checks.STATE, noLot, CoatPledges::restore);
        Supplier<CoatPledges> noneRunning = () -> Banks.told(12);
        stays("meanLoan of none", Checks.ARITHMETIC, Banks::sold, CoatPledges::meanLoan);
        stays("quote of what is sold", Checks.STATE, noneRunning, x -> x.quote(0, 0));
        stays("quote of what is redeemed", Checks.STATE, noneRunning, x -> x.quoteAgain(2, 0));
        stays("willReserve of what is redeemed", Checks.STATE, noneRunning, x -> x.willReserve(2, 0));
        stays("undo of nothing", Checks.STATE, UnchangedTest::restored, CoatPledges::undo);
    }

    private static CoatPledges restored() {
        CoatPledges x = Banks.worn();
        x.restore();
        return x;
    }

    private static void emptyBank() {
        Checks.sentence("A method that throws an exception leaves the state unchanged");
        Supplier<CoatPledges> fresh = CoatPledges::new;
        stays("undo", Checks.STATE, fresh, CoatPledges::undo);
        stays("restore", Checks.STATE, fresh, CoatPledges::restore);
        stays("meanLoan", Checks.ARITHMETIC, fresh, CoatPledges::meanLoan);
        stays("redeemedShare", Checks.ARITHMETIC, fresh, CoatPledges::redeemedShare);
        stays("refusal", Checks.MISSING, fresh, x -> x.refusal(false, false));
        stays("character", Checks.BOUNDS, fresh, x -> x.character(0));
        refused("the rate as it is", fresh, 10, 20, x -> x.rate(20));
        refused("claim", fresh, 9, 0, x -> x.claim(5));
    }

    private static void fullInput() {
        Checks.promise(24);
        Checks.sentence("if the input contains 60 characters");
        stays("append", Checks.STATE, () -> typed("w1;".repeat(19) + "w10"), x -> x.append('0'));
        stays("append", Checks.STATE, () -> typed("w1;".repeat(20)), x -> x.append('w'));
    }

    private static CoatPledges typed(String text) {
        CoatPledges x = new CoatPledges();
        Checks.type(x, text);
        return x;
    }

    /** The bank has two signs in its input already, which the text goes on with. */
    private static void texts() {
        Checks.promise(25);
        Checks.sentence("A text is carried out if each order can be; else nothing of it is");
        String[] rightTexts = {";r5", ";p0=10/7", ";r3;r3", ";p5=100/60;r5;w9;s1=200;y4=99", ";s1=200;c1;c0;c0", "0;w21",
            ";r9;w1;r3", ";w1;w1;w1;w1;w1;w1;w1;w1;w1;w1;w1;w1;w1;w1;w1;w1;w1;w1;r2"};
        for (String text : rightTexts) {
            staysBehindRun(text, Checks.REFUSED, -1);
        }
        staysBehindRun(";", Checks.ARGUMENT, 3);
        staysBehindRun(";r3;", Checks.ARGUMENT, 6);
        staysBehindRun("00", Checks.ARGUMENT, 3);
        staysBehindRun(";r3;x", Checks.ARGUMENT, 6);
        staysBehindRun(";r9;p0=10/10/1", Checks.ARGUMENT, 14);
    }

    private static void staysBehindRun(String text, Class<?> due, int errorPosition) {
        for (int n = 0; n < STATES.size(); n++) {
            CoatPledges x = Banks.worn();
            Checks.type(x, text);
            Checks.fails("run of w1" + text, due, x::run);
            Checks.same("errorPosition", x.errorPosition(), errorPosition);
            Checks.same("input", x.account(14), 0);
            Checks.same("changes", x.account(15), 8);
            Checks.same("the line", x.character(1), '3');
            Checks.same("reason", x.refusal(false, false), due == Checks.REFUSED ? 11 : 10);
            String what = "what probe " + n + " tells behind run of w1" + text;
            Checks.same(what, STATES.get(n).tell(x), STATES.get(n).tell(Banks.worn()));
        }
    }
}
