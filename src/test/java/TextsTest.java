/** Promises 24 to 27. */
public final class TextsTest {
    public static void main(String[] args) {
        appending();
        running();
        errors();
        refusedTexts();
        refusals();
        Checks.end("TextsTest");
    }

    private static void appending() {
        Checks.promise(24);
        CoatPledges x = new CoatPledges();
        for (int n = 1; n <= 60; n++) {
            Checks.same("append " + n, x.append(n == 1 ? (char) 0 : n == 2 ? (char) 65535 : 'w'), n);
        }
        Checks.fails("61st", Checks.STATE, () -> x.append('w'));
        Checks.same("input", x.account(14), 60);
        Checks.same("no change", x.account(15), 0);
        Checks.fails("run", Checks.ARGUMENT, x::run);
        Checks.same("from anew", x.append('w'), 1);
    }

    private static void running() {
        Checks.promise(25);
        CoatPledges x = new CoatPledges();
        Checks.type(x, "p2=200/120;p3=50/30;w4;y0=20;n1;r1;w9;s0=300;c2");
        Checks.same("orders", x.run(), 9);
        Checks.same("input", x.account(14), 0);
        Checks.same("one change", x.account(15), 1);
        Checks.same("week", x.account(0), 13);
        Checks.same("redeemed", x.pledgeOf(1, 4), 2);
        Checks.same("sold", x.pledgeOf(0, 4), 3);
        Checks.same("claimed", x.ownerOf(2, 6), 300 - 112 - 15 - 5);
        Checks.same("cash", x.cash(false), 2000 - 150 + 20 + 4 + 30 + 300 - 168 - 1 + 1);
        Checks.fails("nothing was refused", Checks.MISSING, () -> x.refusal(false, false));
        x.undo();
        Checks.same("all of it is undone", x.account(1), 0);
        Checks.same("cash as it was", x.cash(false), 2000);
        Checks.type(x, "w1;w1;w1;w1;w1;w1;w1;w1;w1;w1;w1;w1;w1;w1;w1;w1;w1;w1;w1;w1");
        Checks.same("20 orders", x.run(), 20);
        Checks.type(x, "p0=002/001;w01;r00");
        Checks.same("zeros ahead", x.run(), 3);
        Checks.same("their numbers", x.pledgeOf(0, 1), 2);
        Checks.fails("an empty text", Checks.ARGUMENT, x::run);
        Checks.type(x, "p0=999/599;p1=10/6;p1=10/6;p1=10/6;p1=10/6;p1=10/6");
        Checks.same("six pledges", x.run(), 6);
        Checks.type(x, "p1=10/6;p1=10/6;p1=10/6;p1=10/6;p1=10/6;w9;s01=9999");
        Checks.same("seven", x.run(), 7);
        Checks.type(x, "w1;s11=5555;c1");
        Checks.same("two digits and four", x.run(), 3);
    }

    private static void errors() {
        Checks.promise(26);
        String[] early = {"", "p", "p0", "p0=", "p0=1", "p0=1/", "w", "r", "y", "y0", "y0=", "n", "s", "s0", "s0=",
            "c", "w1;", "w1;c", "p0=999", "s12="};
        for (String text : early) {
            Checks.error(text, text.length());
        }
        Object[][] inside = {{"x", 0}, {" w1", 0}, {";", 0}, {"W1", 0}, {"w1 ", 2}, {"w123", 3}, {"wx", 1}, {"w-1", 1},
            {"p12=1/1", 2}, {"p=1/1", 1}, {"p1:1/1", 2}, {"p1=/1", 3}, {"p1=1234/1", 6}, {"p1=1/1234", 8},
            {"p1=1=1", 4}, {"p1=1/;", 5}, {"r100", 3}, {"r;", 1}, {"y100=1", 3}, {"y1=1234", 6}, {"y1;", 2},
            {"y1/1", 2}, {"n100", 3}, {"n1=1", 2}, {"s100=1", 3}, {"s1=12345", 7}, {"s1=;", 3}, {"c12", 2}, {"cc", 1},
            {"w1;;w1", 3}, {"w1;w1;x1", 6}, {"w1,w1", 2}, {"f5", 0}, {"%5", 0}, {"t5", 0}, {"w1;r0;c0\u0130", 8}};
        for (Object[] row : inside) {
            Checks.error((String) row[0], (int) row[1]);
        }
        StringBuilder whole = new StringBuilder("w1;w1;w1;w1;w1;w1;w1;w1;w1;w1;w1;w1;w1;w1;w1;w1;w1;w1;w1;w1");
        Checks.error(whole.append(';').toString(), 60);
        String nineteen = whole.substring(0, 57);
        Checks.error(nineteen + "y01", 60);
        Checks.error(nineteen + "p0x", 59);
        CoatPledges x = new CoatPledges();
        Checks.same("at first", x.errorPosition(), -1);
        Checks.type(x, "w1;q");
        Checks.fails("run", Checks.ARGUMENT, x::run);
        Checks.same("nothing is carried out", x.account(0), 0);
        Checks.type(x, "w1");
        Checks.same("of the latest run", x.errorPosition(), 3);
        x.run();
        Checks.same("of a text without error", x.errorPosition(), -1);
        Checks.fails("an empty text", Checks.ARGUMENT, x::run);
        x.undo();
        Checks.same("not undone", x.errorPosition(), 0);
        Checks.type(x, "y0=5");
        Checks.fails("no such ticket", Checks.REFUSED, x::run);
        Checks.type(x, "y0");
        Checks.fails("too early", Checks.ARGUMENT, x::run);
        Checks.same("a longer text before does not continue it", x.errorPosition(), 2);
    }

    private static void refusedTexts() {
        Checks.promise(27);
        CoatPledges x = new CoatPledges();
        x.pledge(2, 200, 120);
        String before = Checks.stateOf(x);
        Checks.textRefused(x, "w1;p0=10/7", 1, 2, 6);
        Checks.textRefused(x, "p1=999/599;p1=999/599;p1=999/599;p2=999/599", 3, 3, 83);
        Checks.textRefused(x, "w9;r0", 1, 4, 1);
        Checks.textRefused(x, "w4;y0=132", 1, 5, 132);
        Checks.textRefused(x, "w4;n0;n0", 2, 6, 120);
        Checks.textRefused(x, "r0;s0=1", 1, 7, 2);
        Checks.textRefused(x, "w9;w2;s0=50", 2, 8, 124);
        Checks.textRefused(x, "w9;s0=152;c2", 2, 9, 1);
        Checks.textRefused(x, "p1=2/1;p6=9/5", 1, 0, 0);
        Checks.textRefused(x, "p0=000/1", 0, 0, 0);
        Checks.textRefused(x, "p0=9/0", 0, 0, 0);
        Checks.textRefused(x, "w1;w0", 1, 0, 0);
        Checks.textRefused(x, "w21", 0, 0, 0);
        Checks.textRefused(x, "r1", 0, 0, 0);
        Checks.textRefused(x, "y1=1", 0, 0, 0);
        Checks.textRefused(x, "y0=0", 0, 0, 0);
        Checks.textRefused(x, "n16", 0, 0, 0);
        Checks.textRefused(x, "s0=0", 0, 0, 0);
        Checks.textRefused(x, "s99=1", 0, 0, 0);
        Checks.textRefused(x, "c6", 0, 0, 0);
        Checks.same("nothing of them is carried out", Checks.stateOf(x), before);
        Checks.same("no change", x.account(15), 1);
        for (int n = 1; n < 16; n++) {
            x.pledge(0, 10, 6);
        }
        Checks.textRefused(x, "p0=10/6", 0, 1, 16);
        Checks.same("changes", x.account(15), 8);
        x.undo();
        Checks.same("the undone change is that ahead of the text", x.account(1), 15);
    }

    private static void refusals() {
        Checks.promise(27);
        CoatPledges x = new CoatPledges();
        for (int n = 0; n < 4; n++) {
            boolean isCause = n > 1;
            boolean isDetail = n % 2 == 1;
            Checks.fails("nothing was refused", Checks.MISSING, () -> x.refusal(isCause, isDetail));
        }
        Checks.textRefused(x, "c0", 0, 9, 0);
        x.pass(1);
        Checks.same("it stays behind a change", x.refusal(true, false), 9);
        Checks.fails("wrong arguments keep no reason", Checks.ARGUMENT, () -> x.pass(0));
        Checks.same("still", x.refusal(false, false), 11);
        Checks.refused("another reason", x, 10, 20, () -> x.rate(20));
        x.undo();
        Checks.same("not undone", x.refusal(false, false), 10);
        x.save();
        Checks.refused("a reason behind save", x, 10, 5, () -> x.fee(5));
        x.restore();
        Checks.same("not restored", x.refusal(false, true), 5);
        Checks.type(x, "c0;");
        Checks.fails("a text with an error", Checks.ARGUMENT, x::run);
        Checks.same("keeps no reason", x.refusal(false, false), 10);
    }
}
