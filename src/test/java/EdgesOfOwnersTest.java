/** Promises 19 to 23 at their edges: the last that is still right and the first that is not, on both sides. */
public final class EdgesOfOwnersTest {
    public static void main(String[] args) {
        owners();
        whats();
        eachOwner();
        soFar();
        cashOfEachChange();
        leastAndMostCash();
        wellInEachState();
        ticketsOfLines();
        lineOfTheDocument();
        letters();
        shortestAndLongestLine();
        lineStays();
        indices();
        Checks.end("EdgesOfOwnersTest");
    }

    private static void owners() {
        Checks.promise(19);
        Checks.sentence("if there is no such owner");
        Checks.range("owner", Checks.BOUNDS, 0, 5, n -> new CoatPledges().ownerOf(n, 0));
    }

    private static void whats() {
        Checks.promise(19);
        Checks.sentence("if what is not from 0 to 6");
        for (int owner = 0; owner < 6; owner++) {
            int of = owner;
            Checks.range("what", Checks.ARGUMENT, 0, 6, n -> new CoatPledges().ownerOf(of, n));
        }
    }

    private static void eachOwner() {
        Checks.promise(19);
        Checks.sentence("Returns a number of an owner");
        CoatPledges x = new CoatPledges();
        for (int n = 0; n < 16; n++) {
            x.pledge(n < 6 ? 5 : n % 5, 100, 50);
        }
        x.pass(1);
        x.redeem(0);
        x.renew(1);
        x.renew(4);
        x.renew(6);
        x.pass(8);
        x.sell(2, 100);
        x.sell(3, 64);
        int[] ofFive = {2, 116, 1, 1, 2, 36, 0};
        int[] ofOne = {1, 58, 1, 0, 0, 0, 0};
        for (int what = 0; what < 7; what++) {
            Checks.same("owner 5, " + what, x.ownerOf(5, what), ofFive[what]);
            Checks.same("owner 1, " + what, x.ownerOf(1, what), ofOne[what]);
        }
        x.claim(5);
        Checks.same("left over", x.ownerOf(5, 5), 0);
        Checks.same("claimed", x.ownerOf(5, 6), 36);
    }

    private static void soFar() {
        Checks.promise(19);
        Checks.sentence("the coats that were redeemed so far, the pledges that were sold so far");
        CoatPledges x = Banks.with(16);
        int[] redeemed = {0, 0, 0, 0, 0, 0};
        for (int n = 0; n < 8; n++) {
            x.redeem(n);
            redeemed[n % 6]++;
            Checks.same("redeemed " + n, x.ownerOf(n % 6, 3), redeemed[n % 6]);
        }
        x.pass(9);
        int[] sold = {0, 0, 0, 0, 0, 0};
        for (int n = 8; n < 16; n++) {
            x.sell(n, 20);
            sold[n % 6]++;
            Checks.same("sold " + n, x.ownerOf(n % 6, 4), sold[n % 6]);
        }
        for (int owner = 0; owner < 6; owner++) {
            Checks.same("running of " + owner, x.ownerOf(owner, 0), 0);
            Checks.same("owed on them by " + owner, x.ownerOf(owner, 1), 0);
            Checks.same("lots of " + owner, x.ownerOf(owner, 2), 0);
            Checks.same("redeemed of " + owner, x.ownerOf(owner, 3), redeemed[owner]);
            Checks.same("sold of " + owner, x.ownerOf(owner, 4), sold[owner]);
        }
    }

    private static void cashIs(String behind, CoatPledges x, int due) {
        Checks.same("as counted behind " + behind, x.cash(false), due);
        Checks.same("by the second way behind " + behind, x.cash(true), due);
    }

    private static void cashOfEachChange() {
        Checks.promise(20);
        Checks.sentence("as it was counted, or from the loans that were paid out, what was paid, prices and claims");
        CoatPledges x = new CoatPledges();
        cashIs("nothing", x, 2000);
        x.pledge(0, 999, 300);
        cashIs("a loan", x, 1700);
        x.rate(1);
        x.fee(0);
        cashIs("rate and fee", x, 1700);
        x.pass(4);
        cashIs("weeks", x, 1700);
        x.pay(0, 25);
        cashIs("a part", x, 1725);
        x.pass(1);
        x.renew(0);
        cashIs("renewing", x, 1731);
        x.undo();
        cashIs("undo", x, 1725);
        x.save();
        x.redeem(0);
        cashIs("redeeming", x, 1725 + 299 + 6);
        x.restore();
        cashIs("restore", x, 1725);
        x.pass(4);
        cashIs("a lot", x, 1725);
        x.sell(0, 400);
        cashIs("a sale", x, 2125);
        x.claim(0);
        cashIs("a claim", x, 2125 - (400 - 299 - 5 * 6));
        Checks.type(x, "p1=100/60;w1;r1");
        x.run();
        cashIs("a text", x, 2125 - 71 + 1);
    }

    private static void leastAndMostCash() {
        Checks.promise(20);
        Checks.sentence("Returns the cash");
        CoatPledges x = Banks.full();
        cashIs("all the loans", x, 0);
        x.pass(9);
        for (int n = 0; n < 16; n++) {
            x.sell(n, 9999);
        }
        cashIs("the greatest sales", x, 16 * 9999);
        for (int owner = 0; owner < 6; owner++) {
            x.claim(owner);
        }
        cashIs("all claims", x, 16 * (125 + 27 + 5));
    }

    private static void wellInEachState() {
        Checks.promise(21);
        Checks.sentence("Tells, by a second way, whether all is well");
        CoatPledges[] banks = {new CoatPledges(), Banks.with(1), Banks.with(16), Banks.full(), Banks.poor(),
            Banks.worn(), Banks.lot(599), Banks.redeemed(), Banks.sold()};
        for (CoatPledges x : banks) {
            Checks.same("at first", x.isWell(), true);
            for (int week = 1; week <= 12; week++) {
                x.pass(1);
                Checks.same("behind " + week, x.isWell(), true);
            }
        }
    }

    private static void ticketsOfLines() {
        Checks.promise(22);
        Checks.sentence("if there is no such ticket");
        for (int made : new int[] {1, 2, 16}) {
            Checks.range("line", Checks.MISSING, 0, made - 1, n -> Banks.with(made).line(n));
        }
        CoatPledges x = Banks.with(16);
        for (int n = 0; n < 16; n++) {
            String due = "#" + n + " 10/6+0 p";
            Checks.same("line " + n, Checks.lineOf(x, n), due);
            Checks.same("length " + n, x.line(n), due.length());
        }
    }

    private static void lineOfTheDocument() {
        Checks.promise(22);
        Checks.sentence("as in \"#3 120/60+4 p\"");
        CoatPledges x = Banks.with(3);
        x.pledge(0, 120, 60);
        x.pass(2);
        Checks.same("length", x.line(3), 13);
        Checks.same("line", Checks.lineOf(x, 3), "#3 120/60+4 p");
    }

    private static void letters() {
        Checks.promise(22);
        Checks.sentence("\"p\", \"l\", \"r\" or \"s\" for what the pledge is");
        Checks.same("running", Checks.lineOf(Banks.behind(8, Banks.running(50)), 0), "#0 999/50+8 p");
        Checks.same("a lot", Checks.lineOf(Banks.lot(50), 0), "#0 999/50+9 l");
        Checks.same("redeemed", Checks.lineOf(Banks.redeemed(), 0), "#0 999/0+0 r");
        Checks.same("sold", Checks.lineOf(Banks.sold(), 0), "#0 999/50+9 s");
        CoatPledges x = Banks.running(50);
        x.pass(3);
        x.pay(0, 13);
        Checks.same("the loan as it is", Checks.lineOf(x, 0), "#0 999/40+0 p");
    }

    private static void shortestAndLongestLine() {
        Checks.promise(22);
        Checks.sentence("the interest that is not paid");
        CoatPledges x = new CoatPledges();
        x.pledge(0, 2, 1);
        Checks.same("shortest", Checks.lineOf(x, 0), "#0 2/1+0 p");
        for (int n = 1; n < 15; n++) {
            x.pledge(0, 2, 1);
        }
        x.rate(60);
        x.pledge(0, 999, 599);
        x.pass(9);
        Checks.same("length of the longest", x.line(15), 17);
        Checks.same("longest", Checks.lineOf(x, 15), "#15 999/599+324 l");
    }

    private static void lineStays() {
        Checks.promise(22);
        Checks.sentence("Writes the line of a ticket, in place of the line before");
        CoatPledges x = Banks.with(11);
        x.line(10);
        x.line(0);
        Checks.fails("the longer line is gone", Checks.BOUNDS, () -> x.character(11));
        Checks.fails("no ticket", Checks.MISSING, () -> x.line(11));
        Checks.same("the line before stays", x.character(1), '0');
        Checks.promise(23);
        x.redeem(0);
        Checks.same("a change writes no line", x.character(10), 'p');
        x.save();
        x.undo();
        x.restore();
        Checks.same("nor do undo and restore", x.character(10), 'p');
        Checks.same("what is written is as it is", Checks.lineOf(x, 0), "#0 10/0+0 r");
    }

    private static void indices() {
        Checks.promise(23);
        Checks.sentence("if there is no such index");
        CoatPledges x = new CoatPledges();
        for (int index : new int[] {0, -1, 1, Integer.MIN_VALUE, Integer.MAX_VALUE}) {
            Checks.fails("empty at first", Checks.BOUNDS, () -> x.character(index));
        }
        CoatPledges y = Banks.running(50);
        int length = y.line(0);
        Checks.range("index", Checks.BOUNDS, 0, length - 1, y::character);
        Checks.same("the first", y.character(0), '#');
        Checks.same("the last", y.character(length - 1), 'p');
    }
}
