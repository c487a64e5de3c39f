/** Promises 10 to 18. */
public final class LotsTest {
    public static void main(String[] args) {
        selling();
        losses();
        claiming();
        claimingWithoutCash();
        placesOfLots();
        ranks();
        quotes();
        lotsAhead();
        reservesAhead();
        Checks.end("LotsTest");
    }

    private static CoatPledges withLots() {
        CoatPledges x = new CoatPledges();
        x.pledge(2, 200, 120);
        x.pledge(3, 100, 60);
        x.pledge(2, 999, 500);
        x.pass(9);
        return x;
    }

    private static void selling() {
        Checks.promise(10);
        CoatPledges x = withLots();
        x.fee(20);
        Checks.fails("no ticket", Checks.MISSING, () -> x.sell(3, 0));
        Checks.fails("price 0", Checks.ARGUMENT, () -> x.sell(0, 0));
        Checks.fails("price 10000", Checks.ARGUMENT, () -> x.sell(0, 10000));
        Checks.refused("below the reserve", x, 8, 152, () -> x.sell(0, 151));
        Checks.same("the reserve itself", x.sell(0, 152), 0);
        Checks.same("no loss", x.account(11), 0);
        Checks.refused("again", x, 7, 3, () -> x.sell(0, 9999));
        Checks.same("above, by the fee of its time", x.sell(1, 9999), 9999 - 60 - 18 - 5);
        Checks.same("left over", x.ownerOf(3, 5), 9916);
        Checks.same("cash", x.cash(false), 2000 - 680 + 152 + 9999);
        Checks.same("prices", x.account(8), 10151);
        Checks.same("a sale is not paid on it", x.pledgeOf(1, 8), 0);
        x.pledge(0, 10, 6);
        Checks.refused("running", x, 7, 0, () -> x.sell(3, 9999));
        Checks.fails("the price ahead of the state", Checks.ARGUMENT, () -> x.sell(3, 10000));
        x.redeem(3);
        Checks.refused("redeemed", x, 7, 2, () -> x.sell(3, 1));
    }

    private static void losses() {
        Checks.promise(10);
        CoatPledges x = withLots();
        x.pass(2);
        Checks.same("reserve", x.pledgeOf(0, 7), 124);
        Checks.refused("below", x, 8, 124, () -> x.sell(0, 123));
        Checks.same("at a loss", x.sell(0, 130), 0);
        Checks.same("loss", x.account(11), 22);
        Checks.same("nothing is left over", x.ownerOf(2, 5), 0);
        Checks.same("above by one", x.sell(1, 84), 1);
        Checks.same("loss stays", x.account(11), 22);
        Checks.same("left over", x.account(10), 1);
        x.sell(2, 500);
        Checks.same("losses together", x.account(11), 22 + 95);
    }

    private static void claiming() {
        Checks.promise(11);
        CoatPledges x = withLots();
        Checks.fails("owner 6", Checks.BOUNDS, () -> x.claim(6));
        Checks.fails("owner -1", Checks.BOUNDS, () -> x.claim(-1));
        Checks.refused("nothing sold", x, 9, 0, () -> x.claim(2));
        x.sell(0, 200);
        x.sell(2, 700);
        Checks.same("both together", x.claim(2), 48 + 105);
        Checks.same("claimed", x.ownerOf(2, 6), 153);
        Checks.same("nothing left", x.ownerOf(2, 5), 0);
        Checks.same("cash", x.cash(false), 2000 - 680 + 900 - 153);
        Checks.refused("two sold", x, 9, 2, () -> x.claim(2));
        Checks.refused("of another owner", x, 9, 0, () -> x.claim(3));
        x.sell(1, 90);
        x.claim(3);
        Checks.same("claimed by all", x.account(9), 160);
    }

    private static void claimingWithoutCash() {
        Checks.promise(11);
        CoatPledges x = new CoatPledges();
        x.pledge(0, 999, 599);
        x.pledge(1, 999, 599);
        x.pass(9);
        x.sell(0, 800);
        int leftOver = 800 - 599 - 9 * 12 - 5;
        Checks.same("left over", x.ownerOf(0, 5), leftOver);
        x.pledge(2, 999, 599);
        x.pledge(2, 999, 599);
        x.pledge(2, 999, 404 - leftOver + 1);
        Checks.same("one too few", x.cash(false), leftOver - 1);
        Checks.refused("no cash", x, 3, leftOver - 1, () -> x.claim(0));
        Checks.refused("nothing is left ahead of no cash", x, 9, 0, () -> x.claim(1));
        x.undo();
        x.pledge(2, 999, 404 - leftOver);
        Checks.same("all the cash", x.claim(0), leftOver);
        Checks.same("no cash any more", x.cash(false), 0);
    }

    private static void placesOfLots() {
        Checks.promise(12);
        CoatPledges x = new CoatPledges();
        x.pledge(0, 100, 50);
        x.pledge(0, 100, 60);
        x.pledge(0, 100, 40);
        x.pass(1);
        x.pledge(0, 100, 30);
        x.renew(0);
        x.pass(1);
        x.renew(1);
        Checks.fails("no lot so far", Checks.MISSING, () -> x.lotAt(0));
        Checks.same("all become lots", x.pass(9), 4);
        int[] order = {2, 0, 3, 1};
        for (int place = 0; place < 4; place++) {
            Checks.same("place " + place, x.lotAt(place), order[place]);
        }
        Checks.fails("place 4", Checks.MISSING, () -> x.lotAt(4));
        Checks.fails("place -1", Checks.MISSING, () -> x.lotAt(-1));
        x.sell(0, 999);
        Checks.same("the lots behind it move up", x.lotAt(1), 3);
        Checks.fails("place 3", Checks.MISSING, () -> x.lotAt(3));
        x.undo();
        Checks.same("back in its place", x.lotAt(1), 0);
    }

    private static void ranks() {
        Checks.promise(13);
        CoatPledges x = new CoatPledges();
        x.pledge(0, 100, 40);
        x.pledge(0, 100, 60);
        x.pledge(0, 100, 60);
        x.pledge(0, 100, 20);
        x.pledge(0, 100, 40);
        Checks.fails("running pledges have no rank", Checks.MISSING, () -> x.ranked(0));
        x.pass(9);
        int[] order = {1, 2, 0, 4, 3};
        for (int place = 0; place < 5; place++) {
            Checks.same("rank " + place, x.ranked(place), order[place]);
        }
        Checks.fails("rank 5", Checks.MISSING, () -> x.ranked(5));
        Checks.fails("rank -1", Checks.MISSING, () -> x.ranked(-1));
        x.sell(2, 999);
        Checks.same("rank 1 behind a sale", x.ranked(1), 0);
        x.pledge(0, 100, 45);
        x.pass(9);
        Checks.same("a later lot whose reserve fell less", x.ranked(0), 5);
        Checks.same("it is the last that became a lot", x.lotAt(4), 5);
    }

    private static void quotes() {
        CoatPledges x = new CoatPledges();
        x.pledge(0, 200, 120);
        x.pass(2);
        x.pay(0, 16);
        for (int weeks = 0; weeks <= 6; weeks++) {
            Checks.promise(14);
            Checks.same("behind " + weeks, x.quote(0, weeks), 110 + 3 * weeks);
            Checks.promise(15);
            Checks.same("again behind " + weeks, x.quoteAgain(0, weeks), 110 + 3 * weeks);
        }
        Checks.promise(14);
        Checks.fails("a lot then", Checks.STATE, () -> x.quote(0, 7));
        Checks.fails("20", Checks.STATE, () -> x.quote(0, 20));
        Checks.fails("21", Checks.ARGUMENT, () -> x.quote(0, 21));
        Checks.fails("-1", Checks.ARGUMENT, () -> x.quote(0, -1));
        Checks.fails("the ticket first", Checks.MISSING, () -> x.quote(1, 21));
        Checks.promise(15);
        Checks.fails("a lot then", Checks.STATE, () -> x.quoteAgain(0, 7));
        Checks.fails("20", Checks.STATE, () -> x.quoteAgain(0, 20));
        Checks.fails("21", Checks.ARGUMENT, () -> x.quoteAgain(0, 21));
        Checks.fails("-1", Checks.ARGUMENT, () -> x.quoteAgain(0, -1));
        Checks.fails("the ticket first", Checks.MISSING, () -> x.quoteAgain(-1, 21));
        Checks.same("a quote changes nothing", x.account(15), 3);
        x.redeem(0);
        Checks.promise(14);
        Checks.fails("redeemed", Checks.STATE, () -> x.quote(0, 0));
        Checks.promise(15);
        Checks.fails("redeemed", Checks.STATE, () -> x.quoteAgain(0, 0));
        x.pledge(0, 10, 6);
        x.pass(9);
        Checks.promise(14);
        Checks.fails("a lot", Checks.STATE, () -> x.quote(1, 0));
        Checks.fails("the number ahead of the state", Checks.ARGUMENT, () -> x.quote(1, 21));
        Checks.promise(15);
        Checks.fails("a lot", Checks.STATE, () -> x.quoteAgain(1, 0));
        Checks.fails("the number ahead of the state", Checks.ARGUMENT, () -> x.quoteAgain(1, 21));
    }

    private static void lotsAhead() {
        CoatPledges x = new CoatPledges();
        x.pledge(0, 100, 50);
        x.pledge(0, 100, 50);
        x.pledge(0, 100, 50);
        x.pass(3);
        x.pledge(0, 100, 50);
        x.renew(1);
        x.redeem(2);
        int[][] due = {{0, 0}, {5, 0}, {6, 1}, {8, 1}, {9, 3}, {20, 3}};
        for (int[] row : due) {
            Checks.promise(16);
            Checks.same("in " + row[0], x.willBeLots(row[0]), row[1]);
            Checks.promise(17);
            Checks.same("again in " + row[0], x.willBeLotsAgain(row[0]), row[1]);
        }
        x.pass(6);
        Checks.promise(16);
        Checks.same("the lot counts no more", x.willBeLots(20), 2);
        Checks.fails("21", Checks.ARGUMENT, () -> x.willBeLots(21));
        Checks.fails("-1", Checks.ARGUMENT, () -> x.willBeLots(-1));
        Checks.promise(17);
        Checks.same("the lot counts no more", x.willBeLotsAgain(20), 2);
        Checks.fails("21", Checks.ARGUMENT, () -> x.willBeLotsAgain(21));
        Checks.fails("-1", Checks.ARGUMENT, () -> x.willBeLotsAgain(-1));
    }

    private static void reservesAhead() {
        Checks.promise(18);
        CoatPledges x = withLots();
        int[] falling = {152, 137, 124, 112, 101, 91, 82, 74, 67, 61, 55};
        for (int weeks = 0; weeks < falling.length; weeks++) {
            Checks.same("behind " + weeks, x.willReserve(0, weeks), falling[weeks]);
        }
        int ahead = x.willReserve(2, 20);
        Checks.fails("21", Checks.ARGUMENT, () -> x.willReserve(0, 21));
        Checks.fails("-1", Checks.ARGUMENT, () -> x.willReserve(0, -1));
        Checks.fails("no ticket", Checks.MISSING, () -> x.willReserve(3, 21));
        x.pass(20);
        Checks.same("as it was told", x.pledgeOf(2, 7), ahead);
        x.pledge(0, 10, 6);
        Checks.fails("running", Checks.STATE, () -> x.willReserve(3, 20));
        Checks.fails("the number ahead of the state", Checks.ARGUMENT, () -> x.willReserve(3, 21));
        x.sell(0, 500);
        Checks.fails("sold", Checks.STATE, () -> x.willReserve(0, 0));
        x.redeem(3);
        Checks.fails("redeemed", Checks.STATE, () -> x.willReserve(3, 0));
    }
}
