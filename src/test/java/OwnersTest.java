/** Promises 19 to 23. */
public final class OwnersTest {
    public static void main(String[] args) {
        owners();
        cashInTwoWays();
        wellness();
        lines();
        Checks.end("OwnersTest");
    }

    private static CoatPledges busy() {
        CoatPledges x = new CoatPledges();
        x.pledge(1, 200, 120);
        x.pledge(1, 100, 60);
        x.pledge(1, 50, 30);
        x.pledge(2, 300, 180);
        x.pass(4);
        x.pay(1, 20);
        x.redeem(2);
        x.renew(3);
        x.pass(5);
        x.sell(0, 200);
        x.pledge(1, 500, 300);
        x.pass(1);
        return x;
    }

    private static void owners() {
        Checks.promise(19);
        CoatPledges x = busy();
        int[] ofOne = {1, 306, 1, 1, 1, 48, 0};
        int[] ofTwo = {1, 204, 0, 0, 0, 0, 0};
        for (int what = 0; what < 7; what++) {
            Checks.same("owner 1, " + what, x.ownerOf(1, what), ofOne[what]);
            Checks.same("owner 2, " + what, x.ownerOf(2, what), ofTwo[what]);
            Checks.same("owner 5, " + what, x.ownerOf(5, what), 0);
        }
        x.claim(1);
        Checks.same("left over behind the claim", x.ownerOf(1, 5), 0);
        Checks.same("claimed", x.ownerOf(1, 6), 48);
        Checks.fails("owner 6", Checks.BOUNDS, () -> x.ownerOf(6, 0));
        Checks.fails("the owner first", Checks.BOUNDS, () -> x.ownerOf(-1, 7));
        Checks.fails("what 7", Checks.ARGUMENT, () -> x.ownerOf(0, 7));
        Checks.fails("what -1", Checks.ARGUMENT, () -> x.ownerOf(0, -1));
    }

    private static void cashInTwoWays() {
        Checks.promise(20);
        CoatPledges x = busy();
        int due = 2000 - 390 + 20 + 34 + 16 + 200;
        Checks.same("as counted", x.cash(false), due - 300);
        Checks.same("from the accounts", x.cash(true), due - 300);
        x.claim(1);
        Checks.same("as counted behind a claim", x.cash(false), due - 348);
        Checks.same("from the accounts behind a claim", x.cash(true), due - 348);
        x.undo();
        x.undo();
        x.undo();
        Checks.same("as counted behind undo", x.cash(false), due);
        Checks.same("from the accounts behind undo", x.cash(true), due);
    }

    private static void wellness() {
        Checks.promise(21);
        CoatPledges x = busy();
        Checks.same("well", x.isWell(), true);
        x.pass(7);
        Checks.same("well as a term is over in two weeks", x.isWell(), true);
        x.pass(20);
        Checks.same("well with lots alone", x.isWell(), true);
    }

    private static void lines() {
        Checks.promise(22);
        CoatPledges x = busy();
        Checks.same("length", x.line(0), 15);
        Checks.same("sold", Checks.lineOf(x, 0), "#0 200/120+27 s");
        Checks.same("lot", Checks.lineOf(x, 1), "#1 100/48+5 l");
        Checks.same("redeemed", Checks.lineOf(x, 2), "#2 50/0+0 r");
        Checks.same("running", Checks.lineOf(x, 3), "#3 300/180+24 p");
        for (int n = 5; n < 11; n++) {
            x.pledge(0, 10, 6);
        }
        Checks.same("two digits", Checks.lineOf(x, 10), "#10 10/6+0 p");
        Checks.fails("no ticket", Checks.MISSING, () -> x.line(11));
        Checks.fails("ticket -1", Checks.MISSING, () -> x.line(-1));
        Checks.same("the line before stays", x.character(1), '1');
        x.undo();
        Checks.promise(23);
        Checks.same("not undone", x.character(0), '#');
        Checks.same("the last", x.character(11), 'p');
        Checks.fails("index 12", Checks.BOUNDS, () -> x.character(12));
        Checks.fails("index -1", Checks.BOUNDS, () -> x.character(-1));
        x.line(2);
        Checks.fails("a shorter line", Checks.BOUNDS, () -> x.character(11));
        CoatPledges y = new CoatPledges();
        Checks.fails("empty at first", Checks.BOUNDS, () -> y.character(0));
    }
}
