/** Promises 1 to 9. */
public final class PledgesTest {
    public static void main(String[] args) {
        newObject();
        pledging();
        pledgingRefused();
        rates();
        fees();
        passing();
        redeeming();
        paying();
        renewing();
        numbers();
        Checks.end("PledgesTest");
    }

    private static void newObject() {
        Checks.promise(1);
        CoatPledges x = new CoatPledges();
        int[] accounts = {0, 0, 0, 0, 0, 0, 0, 0, 0, 0, 0, 0, 20, 5, 0, 0};
        for (int what = 0; what < accounts.length; what++) {
            Checks.same("account " + what, x.account(what), accounts[what]);
        }
        Checks.same("cash", x.cash(false), 2000);
        Checks.same("cash again", x.cash(true), 2000);
        Checks.same("isWell", x.isWell(), true);
        Checks.fails("a pledge", Checks.MISSING, () -> x.pledgeOf(0, 0));
        Checks.fails("no line", Checks.BOUNDS, () -> x.character(0));
        Checks.same("no text yet", x.errorPosition(), -1);
    }

    private static void pledging() {
        Checks.promise(2);
        CoatPledges x = new CoatPledges();
        Checks.same("first ticket", x.pledge(5, 999, 599), 0);
        Checks.same("second ticket", x.pledge(0, 2, 1), 1);
        Checks.same("cash", x.cash(false), 1400);
        Checks.same("owner", x.pledgeOf(0, 0), 5);
        Checks.same("running", x.pledgeOf(0, 4), 0);
        Checks.same("loans", x.account(6), 600);
        Checks.same("changes", x.account(15), 2);
        Checks.fails("owner 6", Checks.BOUNDS, () -> x.pledge(6, 0, 0));
        Checks.fails("owner -1", Checks.BOUNDS, () -> x.pledge(-1, 10, 1));
        Checks.fails("worth 0", Checks.ARGUMENT, () -> x.pledge(0, 0, 1));
        Checks.fails("worth 1000", Checks.ARGUMENT, () -> x.pledge(0, 1000, 1));
        Checks.fails("loan 0", Checks.ARGUMENT, () -> x.pledge(0, 1, 0));
        Checks.fails("least numbers", Checks.ARGUMENT, () -> x.pledge(0, Integer.MIN_VALUE, Integer.MIN_VALUE));
        Checks.fails("no reason so far", Checks.MISSING, () -> x.refusal(false, false));
        Checks.same("still two", x.account(1), 2);
    }

    private static void pledgingRefused() {
        Checks.promise(2);
        CoatPledges x = new CoatPledges();
        Checks.refused("worth 1", x, 2, 0, () -> x.pledge(0, 1, 1));
        Checks.refused("worth 999", x, 2, 599, () -> x.pledge(0, 999, 600));
        Checks.refused("greatest loan", x, 2, 60, () -> x.pledge(0, 100, Integer.MAX_VALUE));
        for (int n = 0; n < 3; n++) {
            x.pledge(n, 999, 599);
        }
        Checks.refused("cash 203", x, 3, 203, () -> x.pledge(0, 999, 204));
        Checks.refused("the loan first", x, 2, 300, () -> x.pledge(0, 500, 301));
        Checks.same("all the cash", x.pledge(0, 999, 203), 3);
        Checks.refused("no cash", x, 3, 0, () -> x.pledge(0, 2, 1));
        CoatPledges y = new CoatPledges();
        for (int n = 0; n < 16; n++) {
            Checks.same("ticket", y.pledge(n % 6, 208, n == 15 ? 124 : 125 - 1), n);
        }
        Checks.same("cash behind 16", y.cash(false), 16);
        Checks.refused("17th", y, 1, 16, () -> y.pledge(0, 10, 1));
        Checks.refused("16 ahead of cash", y, 1, 16, () -> y.pledge(0, 999, 599));
        Checks.refused("loan ahead of 16", y, 2, 6, () -> y.pledge(0, 10, 7));
        y.redeem(0);
        Checks.refused("16 in all, not at once", y, 1, 16, () -> y.pledge(0, 10, 1));
        y.undo();
        y.undo();
        Checks.same("the ticket is free again", y.pledge(3, 10, 1), 15);
    }

    private static void rates() {
        Checks.promise(3);
        CoatPledges x = new CoatPledges();
        x.pledge(0, 100, 50);
        Checks.same("rate before", x.rate(60), 20);
        Checks.same("rate before", x.rate(1), 60);
        Checks.refused("so already", x, 10, 1, () -> x.rate(1));
        Checks.fails("0", Checks.ARGUMENT, () -> x.rate(0));
        Checks.fails("61", Checks.ARGUMENT, () -> x.rate(61));
        Checks.same("rate", x.account(12), 1);
        x.pledge(0, 100, 50);
        Checks.same("the rate of its time", x.pledgeOf(0, 6), 20);
        Checks.same("the later rate", x.pledgeOf(1, 6), 1);
        x.pass(1);
        Checks.same("50 at 20", x.pledgeOf(0, 3), 1);
        Checks.same("50 at 1, rounded up", x.pledgeOf(1, 3), 1);
        x.renew(0);
        Checks.same("to renew changes no rate", x.pledgeOf(0, 6), 20);
        int[][] interest = {{7, 143, 2}, {10, 100, 1}, {11, 91, 2}, {60, 599, 36}, {50, 500, 25}, {1, 1, 1}, {37, 270, 10}};
        for (int[] row : interest) {
            CoatPledges y = new CoatPledges();
            y.rate(row[0]);
            y.pledge(0, 999, row[1]);
            y.pass(1);
            Checks.same("interest of " + row[1] + " at " + row[0], y.pledgeOf(0, 3), row[2]);
        }
    }

    private static void fees() {
        Checks.promise(4);
        CoatPledges x = new CoatPledges();
        Checks.same("fee before", x.fee(20), 5);
        Checks.same("fee before", x.fee(0), 20);
        Checks.refused("so already", x, 10, 0, () -> x.fee(0));
        Checks.fails("-1", Checks.ARGUMENT, () -> x.fee(-1));
        Checks.fails("21", Checks.ARGUMENT, () -> x.fee(21));
        Checks.same("fee", x.account(13), 0);
        x.pledge(0, 100, 50);
        x.pass(1);
        x.pledge(0, 100, 50);
        x.pass(8);
        x.fee(20);
        x.pass(1);
        Checks.same("reserve by the fee of its time", x.pledgeOf(0, 7), 54);
        Checks.same("reserve by the later fee", x.pledgeOf(1, 7), 79);
    }

    private static void passing() {
        Checks.promise(5);
        CoatPledges x = new CoatPledges();
        x.pledge(0, 200, 120);
        x.pledge(1, 100, 50);
        Checks.same("eight weeks", x.pass(8), 0);
        Checks.same("24 by 3 a week", x.pledgeOf(0, 3), 24);
        Checks.same("8 by exactly 1 a week", x.pledgeOf(1, 3), 8);
        Checks.same("still running", x.pledgeOf(0, 4), 0);
        Checks.same("week 9", x.pass(1), 2);
        Checks.same("nine weeks of interest", x.pledgeOf(0, 3), 27);
        Checks.same("a lot", x.pledgeOf(0, 4), 1);
        Checks.same("reserve", x.pledgeOf(0, 7), 152);
        x.pass(1);
        Checks.same("a lot gets no interest", x.pledgeOf(0, 3), 27);
        Checks.same("a tenth less, rounded down", x.pledgeOf(0, 7), 137);
        Checks.same("week", x.account(0), 10);
        Checks.fails("0", Checks.ARGUMENT, () -> x.pass(0));
        Checks.fails("21", Checks.ARGUMENT, () -> x.pass(21));
        Checks.fails("-1", Checks.ARGUMENT, () -> x.pass(-1));
        x.pledge(2, 100, 60);
        Checks.same("20 at once", x.pass(20), 1);
        Checks.same("67 less eleven times a tenth", x.pledgeOf(2, 7), fallen(60 + 9 * 2 + 5, 11));
        Checks.same("nine weeks of interest alone", x.pledgeOf(2, 3), 18);
        x.pass(20);
        x.pass(20);
        Checks.same("a reserve below 10 stays", x.pledgeOf(2, 7), 9);
    }

    private static int fallen(int reserve, int weeks) {
        return weeks == 0 ? reserve : fallen(reserve * 9 / 10 + (reserve * 9 % 10 == 0 ? 0 : 1), weeks - 1);
    }

    private static void redeeming() {
        Checks.promise(6);
        CoatPledges x = new CoatPledges();
        x.pledge(0, 200, 120);
        x.pledge(0, 200, 120);
        x.pledge(0, 200, 120);
        x.pass(2);
        Checks.same("what is owed", x.redeem(0), 126);
        Checks.same("cash", x.cash(false), 2000 - 360 + 126);
        Checks.same("loan", x.pledgeOf(0, 2), 0);
        Checks.same("interest", x.pledgeOf(0, 3), 0);
        Checks.same("redeemed", x.pledgeOf(0, 4), 2);
        Checks.same("paid", x.pledgeOf(0, 8), 126);
        Checks.refused("again", x, 4, 2, () -> x.redeem(0));
        Checks.fails("no ticket", Checks.MISSING, () -> x.redeem(3));
        Checks.fails("ticket -1", Checks.MISSING, () -> x.redeem(-1));
        Checks.same("what is redeemed becomes no lot", x.pass(7), 2);
        Checks.same("redeemed for good", x.pledgeOf(0, 4), 2);
        Checks.same("no interest any more", x.pledgeOf(0, 3), 0);
        Checks.refused("a lot", x, 4, 1, () -> x.redeem(1));
        x.sell(2, 9999);
        Checks.refused("what is sold", x, 4, 3, () -> x.redeem(2));
    }

    private static void paying() {
        Checks.promise(7);
        CoatPledges x = new CoatPledges();
        x.pledge(0, 200, 120);
        Checks.refused("the amount is what is owed", x, 5, 120, () -> x.pay(0, 120));
        x.pass(4);
        Checks.same("a part of the interest", x.pay(0, 5), 127);
        Checks.same("interest", x.pledgeOf(0, 3), 7);
        Checks.same("loan", x.pledgeOf(0, 2), 120);
        Checks.same("interest, then loan", x.pay(0, 57), 70);
        Checks.same("interest", x.pledgeOf(0, 3), 0);
        Checks.same("loan", x.pledgeOf(0, 2), 70);
        Checks.same("paid", x.pledgeOf(0, 8), 62);
        Checks.same("cash", x.cash(false), 2000 - 120 + 62);
        Checks.same("the term goes on", x.pledgeOf(0, 5), 0);
        x.pass(1);
        Checks.same("interest of the loan as it is", x.pledgeOf(0, 3), 2);
        Checks.same("all but one", x.pay(0, 71), 1);
        Checks.same("loan 1", x.pledgeOf(0, 2), 1);
        Checks.refused("one", x, 5, 1, () -> x.pay(0, 1));
        Checks.refused("more", x, 5, 1, () -> x.pay(0, Integer.MAX_VALUE));
        Checks.fails("no ticket", Checks.MISSING, () -> x.pay(1, 0));
        Checks.fails("amount 0", Checks.ARGUMENT, () -> x.pay(0, 0));
        x.redeem(0);
        Checks.fails("the amount ahead of the state", Checks.ARGUMENT, () -> x.pay(0, -1));
        Checks.refused("redeemed", x, 4, 2, () -> x.pay(0, 1));
        x.pledge(0, 10, 6);
        x.pass(9);
        Checks.refused("a lot", x, 4, 1, () -> x.pay(1, 999));
    }

    private static void renewing() {
        Checks.promise(8);
        CoatPledges x = new CoatPledges();
        x.pledge(0, 200, 120);
        Checks.refused("no interest", x, 6, 120, () -> x.renew(0));
        x.pass(8);
        Checks.same("interest", x.renew(0), 24);
        Checks.same("no interest", x.pledgeOf(0, 3), 0);
        Checks.same("loan", x.pledgeOf(0, 2), 120);
        Checks.same("term", x.pledgeOf(0, 5), 8);
        Checks.same("paid", x.pledgeOf(0, 8), 24);
        Checks.same("cash", x.cash(false), 1904);
        Checks.refused("again", x, 6, 120, () -> x.renew(0));
        Checks.same("eight weeks more", x.pass(8), 0);
        Checks.same("the ninth", x.pass(1), 1);
        Checks.refused("a lot", x, 4, 1, () -> x.renew(0));
        Checks.fails("no ticket", Checks.MISSING, () -> x.renew(1));
        x.pledge(0, 10, 6);
        x.redeem(1);
        Checks.refused("the state ahead of the interest", x, 4, 2, () -> x.renew(1));
    }

    private static void numbers() {
        Checks.promise(9);
        CoatPledges x = new CoatPledges();
        x.pass(3);
        x.rate(30);
        x.pledge(4, 500, 300);
        x.pass(2);
        x.pay(0, 20);
        int[] running = {4, 500, 298, 0, 0, 3, 30, 0, 20};
        for (int what = 0; what < running.length; what++) {
            Checks.same("running, " + what, x.pledgeOf(0, what), running[what]);
        }
        x.pass(7);
        int[] lot = {4, 500, 298, 63, 1, 3, 30, 366, 20};
        for (int what = 0; what < lot.length; what++) {
            Checks.same("lot, " + what, x.pledgeOf(0, what), lot[what]);
        }
        x.sell(0, 400);
        int[] sold = {4, 500, 298, 63, 3, 3, 30, 0, 20};
        for (int what = 0; what < sold.length; what++) {
            Checks.same("sold, " + what, x.pledgeOf(0, what), sold[what]);
        }
        Checks.fails("what 9", Checks.ARGUMENT, () -> x.pledgeOf(0, 9));
        Checks.fails("what -1", Checks.ARGUMENT, () -> x.pledgeOf(0, -1));
        Checks.fails("ticket 1", Checks.MISSING, () -> x.pledgeOf(1, 0));
        Checks.fails("the ticket first", Checks.MISSING, () -> x.pledgeOf(-1, 9));
        Checks.fails("ticket 16", Checks.MISSING, () -> x.pledgeOf(16, 0));
    }
}
