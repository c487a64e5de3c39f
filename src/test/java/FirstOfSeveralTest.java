/** Where two exceptions or two reasons apply at once: the one that is documented first. */
public final class FirstOfSeveralTest {
    public static void main(String[] args) {
        pledging();
        pledgingRefused();
        paying();
        renewing();
        tellingOfPledges();
        selling();
        quoting();
        reserves();
        owners();
        texts();
        textsRefused();
        Checks.end("FirstOfSeveralTest");
    }

    private static void first(int promise, String sentence) {
        Checks.promise(promise);
        Checks.sentence(sentence);
    }

    private static void pledging() {
        first(2, "the owner ahead of worth and loan");
        CoatPledges x = new CoatPledges();
        Checks.fails("owner, worth", Checks.BOUNDS, () -> x.pledge(6, 0, 1));
        Checks.fails("owner, worth above", Checks.BOUNDS, () -> x.pledge(-1, 1000, 1));
        Checks.fails("owner, loan", Checks.BOUNDS, () -> x.pledge(6, 10, 0));
        Checks.fails("owner, reason 2", Checks.BOUNDS, () -> x.pledge(-1, 10, 7));
        Checks.fails("worth, reason 2", Checks.ARGUMENT, () -> x.pledge(0, 1000, 601));
        Checks.fails("worth 0, reason 2", Checks.ARGUMENT, () -> x.pledge(0, 0, 1));
        Checks.fails("no reason is kept", Checks.MISSING, () -> x.refusal(false, false));
        CoatPledges full = Banks.full();
        Checks.fails("owner, reasons 1 and 3", Checks.BOUNDS, () -> full.pledge(6, 10, 1));
        Checks.fails("worth, reasons 1 and 3", Checks.ARGUMENT, () -> full.pledge(0, 1000, 1));
        Checks.fails("loan, reasons 1 and 3", Checks.ARGUMENT, () -> full.pledge(0, 10, 0));
        Checks.fails("owner, all reasons", Checks.BOUNDS, () -> full.pledge(-1, 10, 7));
        Checks.fails("no reason is kept", Checks.MISSING, () -> full.refusal(false, false));
        CoatPledges poor = Banks.poor();
        Checks.fails("owner, reason 3", Checks.BOUNDS, () -> poor.pledge(6, 999, 88));
        Checks.fails("worth, reason 3", Checks.ARGUMENT, () -> poor.pledge(0, 1000, 88));
    }

    private static void pledgingRefused() {
        first(2, "refused for reason 2, 1 or 3");
        CoatPledges full = Banks.full();
        Checks.refused("2, 1 and 3", full, 2, 6, () -> full.pledge(0, 10, 7));
        Checks.refused("1 and 3", full, 1, 16, () -> full.pledge(0, 10, 6));
        CoatPledges rich = Banks.with(16);
        Checks.refused("2 and 1", rich, 2, 6, () -> rich.pledge(0, 10, 7));
        Checks.refused("1 alone", rich, 1, 16, () -> rich.pledge(0, 10, 6));
        CoatPledges poor = Banks.poor();
        Checks.refused("2 and 3", poor, 2, 150, () -> poor.pledge(0, 250, 151));
        Checks.refused("3 alone", poor, 3, 87, () -> poor.pledge(0, 250, 150));
        Checks.refused("2 alone", poor, 2, 6, () -> poor.pledge(0, 10, 7));
    }

    private static void paying() {
        first(7, "the ticket, the amount, reason 4, reason 5");
        CoatPledges x = Banks.running(60);
        Checks.fails("ticket and amount", Checks.MISSING, () -> x.pay(1, 0));
        Checks.fails("ticket and amount", Checks.MISSING, () -> x.pay(-1, -1));
        CoatPledges[] banks = {Banks.lot(50), Banks.redeemed(), Banks.sold()};
        for (int n = 0; n < banks.length; n++) {
            CoatPledges y = banks[n];
            Checks.fails("amount and 4", Checks.ARGUMENT, () -> y.pay(0, 0));
            Checks.fails("no reason is kept", Checks.MISSING, () -> y.refusal(false, false));
            Checks.refused("4 and 5", y, 4, n + 1, () -> y.pay(0, 59));
            Checks.refused("4 and 5", y, 4, n + 1, () -> y.pay(0, Integer.MAX_VALUE));
        }
    }

    private static void renewing() {
        first(8, "reason 4 or 6");
        CoatPledges x = Banks.redeemed();
        Checks.refused("4 and 6", x, 4, 2, () -> x.renew(0));
    }

    private static void tellingOfPledges() {
        first(9, "the ticket ahead of what");
        CoatPledges x = Banks.running(60);
        Checks.fails("both", Checks.MISSING, () -> x.pledgeOf(1, 9));
        Checks.fails("both", Checks.MISSING, () -> x.pledgeOf(-1, -1));
        Checks.fails("what alone", Checks.ARGUMENT, () -> x.pledgeOf(0, 9));
    }

    private static void selling() {
        first(10, "the ticket, the price, reason 7, reason 8");
        CoatPledges x = Banks.running(60);
        Checks.fails("ticket and price", Checks.MISSING, () -> x.sell(1, 0));
        Checks.fails("ticket and price", Checks.MISSING, () -> x.sell(-1, 10000));
        Checks.fails("price and 7", Checks.ARGUMENT, () -> x.sell(0, 0));
        Checks.fails("price and 7", Checks.ARGUMENT, () -> x.sell(0, 10000));
        CoatPledges lot = Banks.lot(50);
        Checks.fails("price and 8", Checks.ARGUMENT, () -> lot.sell(0, 0));
        Checks.fails("price and 8", Checks.ARGUMENT, () -> lot.sell(0, -1));
        Checks.fails("no reason is kept", Checks.MISSING, () -> lot.refusal(false, false));
        CoatPledges[] banks = {x, Banks.redeemed(), Banks.sold()};
        for (int n = 0; n < banks.length; n++) {
            CoatPledges y = banks[n];
            Checks.refused("7, however low the price", y, 7, n == 0 ? 0 : n + 1, () -> y.sell(0, 1));
        }
    }

    private static void quoting() {
        CoatPledges[] banks = {Banks.running(50), Banks.lot(50), Banks.redeemed(), Banks.sold()};
        for (CoatPledges x : banks) {
            first(14, "the ticket, the weeks, the state");
            Checks.fails("ticket and weeks", Checks.MISSING, () -> x.quote(1, 21));
            Checks.fails("ticket and weeks", Checks.MISSING, () -> x.quote(-1, -1));
            Checks.fails("weeks and state", Checks.ARGUMENT, () -> x.quote(0, 21));
            Checks.fails("weeks and state", Checks.ARGUMENT, () -> x.quote(0, -1));
            Checks.fails("state alone", Checks.STATE, () -> x.quote(0, 20));
            first(15, "the ticket, the weeks, the state");
            Checks.fails("ticket and weeks", Checks.MISSING, () -> x.quoteAgain(1, 21));
            Checks.fails("ticket and weeks", Checks.MISSING, () -> x.quoteAgain(-1, -1));
            Checks.fails("weeks and state", Checks.ARGUMENT, () -> x.quoteAgain(0, 21));
            Checks.fails("weeks and state", Checks.ARGUMENT, () -> x.quoteAgain(0, -1));
            Checks.fails("state alone", Checks.STATE, () -> x.quoteAgain(0, 20));
        }
    }

    private static void reserves() {
        first(18, "the ticket, the weeks, the state");
        CoatPledges[] banks = {Banks.running(50), Banks.redeemed(), Banks.sold()};
        for (CoatPledges x : banks) {
            Checks.fails("ticket and weeks", Checks.MISSING, () -> x.willReserve(1, 21));
            Checks.fails("ticket and weeks", Checks.MISSING, () -> x.willReserve(-1, -1));
            Checks.fails("weeks and state", Checks.ARGUMENT, () -> x.willReserve(0, 21));
            Checks.fails("weeks and state", Checks.ARGUMENT, () -> x.willReserve(0, -1));
            Checks.fails("state alone", Checks.STATE, () -> x.willReserve(0, 20));
        }
    }

    private static void owners() {
        first(19, "the owner ahead of what");
        CoatPledges x = new CoatPledges();
        Checks.fails("both", Checks.BOUNDS, () -> x.ownerOf(6, 7));
        Checks.fails("both", Checks.BOUNDS, () -> x.ownerOf(-1, -1));
        Checks.fails("what alone", Checks.ARGUMENT, () -> x.ownerOf(5, 7));
    }

    private static void texts() {
        first(25, "the error of a text ahead of reason 11");
        CoatPledges x = Banks.redeemed();
        Checks.outcome(() -> x.rate(20));
        for (String text : new String[] {"r0;x", "r0;", "w0;w", "p6=10/6;r0;c10"}) {
            Checks.type(x, text);
            Checks.fails(text, Checks.ARGUMENT, x::run);
            Checks.same("no reason is kept", x.refusal(false, false), 10);
            Checks.fails("no cause is kept", Checks.MISSING, () -> x.refusal(true, false));
        }
    }

    private static void textsRefused() {
        first(27, "Something is refused for the first that applies of the reasons");
        CoatPledges full = Banks.full();
        Checks.textRefused(full, "p0=10/7", 0, 2, 6);
        Checks.textRefused(full, "p0=10/6", 0, 1, 16);
        Checks.textRefused(full, "p6=10/7", 0, 0, 0);
        Checks.textRefused(full, "p0=0/1", 0, 0, 0);
        CoatPledges x = Banks.redeemed();
        Checks.textRefused(x, "y0=0", 0, 0, 0);
        Checks.textRefused(x, "y0=999", 0, 4, 2);
        Checks.textRefused(x, "y1=0", 0, 0, 0);
        Checks.textRefused(x, "n0", 0, 4, 2);
        Checks.textRefused(x, "s0=0", 0, 0, 0);
        Checks.textRefused(x, "s0=1", 0, 7, 2);
        Checks.textRefused(x, "s1=0", 0, 0, 0);
        Checks.textRefused(x, "r0;w0;r1", 0, 4, 2);
        Checks.textRefused(x, "w0;r0;r1", 0, 0, 0);
    }
}
