/** Promises 10 to 18 at their edges: the last that is still right and the first that is not, on both sides. */
public final class EdgesOfLotsTest {
    public static void main(String[] args) {
        tickets();
        prices();
        pricesFromTheReserve();
        whatIsNoLot();
        priceIntoTheCash();
        leftOverAndLoss();
        feeOfTheTime();
        ownersWhoClaim();
        nothingLeft();
        lastCoins();
        keptUntilClaimed();
        places();
        placesInOrder();
        placesBehindSales();
        ranksByReserve();
        ranksAlike();
        quotedWeeks();
        quotesInEachWeek();
        quotesOfNoRunningPledge();
        quotesComeTrue();
        weeksOfLots();
        weekOfTheLot();
        whatWillBeNoLot();
        weeksOfReserves();
        reservesComeTrue();
        aheadChangesNothing();
        Checks.end("EdgesOfLotsTest");
    }

    private static CoatPledges lots(int number) {
        CoatPledges x = Banks.with(number);
        x.pass(9);
        return x;
    }

    private static void tickets() {
        Checks.sentence("if there is no such ticket");
        for (int made : new int[] {1, 2, 16}) {
            Checks.promise(10);
            Checks.range("sell", Checks.MISSING, 0, made - 1, n -> Banks.with(made).sell(n, 100));
            Checks.promise(14);
            Checks.range("quote", Checks.MISSING, 0, made - 1, n -> Banks.with(made).quote(n, 0));
            Checks.promise(15);
            Checks.range("quoteAgain", Checks.MISSING, 0, made - 1, n -> Banks.with(made).quoteAgain(n, 0));
            Checks.promise(18);
            Checks.range("willReserve", Checks.MISSING, 0, made - 1, n -> Banks.with(made).willReserve(n, 0));
        }
    }

    private static void prices() {
        Checks.promise(10);
        Checks.sentence("if the price is not from 1 to 9999");
        Checks.range("price", Checks.ARGUMENT, 1, 9999, n -> Banks.running(50).sell(0, n));
        CoatPledges x = Banks.lot(50);
        Checks.refused("price 1 is too low a price", x, 8, 64, () -> x.sell(0, 1));
        Checks.fails("price 0", Checks.ARGUMENT, () -> x.sell(0, 0));
        Checks.fails("price 10000", Checks.ARGUMENT, () -> x.sell(0, 10000));
        Checks.same("price 9999", x.sell(0, 9999), 9935);
    }

    private static void pricesFromTheReserve() {
        Checks.promise(10);
        Checks.sentence("reason 8, the price is below the reserve: the reserve");
        int[] reserves = {64, 58, 53, 48, 44};
        for (int weeks = 0; weeks < reserves.length; weeks++) {
            int reserve = reserves[weeks];
            CoatPledges x = Banks.behind(weeks, Banks.lot(50));
            Checks.refused("one below", x, 8, reserve, () -> x.sell(0, reserve - 1));
            Checks.same("the reserve at least", x.sell(0, reserve), 0);
            Checks.same("sold", x.pledgeOf(0, 4), 3);
        }
    }

    private static void whatIsNoLot() {
        Checks.promise(10);
        Checks.sentence("reason 7, the pledge is no lot: what it is");
        for (int week = 0; week <= 8; week++) {
            CoatPledges x = Banks.behind(week, Banks.running(50));
            Checks.refused("running in week " + week, x, 7, 0, () -> x.sell(0, 9999));
        }
        Checks.same("in week 9", Banks.lot(50).sell(0, 64), 0);
        CoatPledges redeemed = Banks.redeemed();
        Checks.refused("redeemed", redeemed, 7, 2, () -> redeemed.sell(0, 9999));
        CoatPledges sold = Banks.sold();
        Checks.refused("sold", sold, 7, 3, () -> sold.sell(0, 9999));
    }

    private static void priceIntoTheCash() {
        Checks.promise(10);
        Checks.sentence("the price goes into the cash");
        for (int price : new int[] {64, 65, 9999}) {
            CoatPledges x = Banks.lot(50);
            x.sell(0, price);
            Checks.same("cash", x.cash(false), 1950 + price);
            Checks.same("cash again", x.cash(true), 1950 + price);
            Checks.same("prices", x.account(8), price);
        }
    }

    private static void leftOverAndLoss() {
        Checks.promise(10);
        Checks.sentence("What the price is above what is owed and the fee is left over; what it is below that is the loss");
        int[][] due = {{58, 0, 6}, {63, 0, 1}, {64, 0, 0}, {65, 1, 0}, {9999, 9935, 0}};
        for (int[] row : due) {
            CoatPledges x = Banks.behind(1, Banks.lot(50));
            Checks.same("left over of " + row[0], x.sell(0, row[0]), row[1]);
            Checks.same("left over for the owner of " + row[0], x.ownerOf(0, 5), row[1]);
            Checks.same("left over in all of " + row[0], x.account(10), row[1]);
            Checks.same("loss of " + row[0], x.account(11), row[2]);
        }
        CoatPledges x = Banks.with(2);
        x.pass(20);
        int reserve = x.pledgeOf(0, 7);
        x.sell(0, reserve);
        x.sell(1, 9999);
        Checks.same("what is left over makes no loss good", x.account(11), 6 + 9 + 5 - reserve);
    }

    private static void feeOfTheTime() {
        Checks.promise(10);
        Checks.sentence("the fee of the time when it became a lot");
        for (int fee : new int[] {0, 4, 6, 20}) {
            CoatPledges x = Banks.lot(50);
            x.fee(fee);
            x.pass(1);
            Checks.same("left over", x.sell(0, 65), 1);
            CoatPledges y = Banks.lot(50);
            y.fee(fee);
            y.pass(1);
            y.sell(0, 63);
            Checks.same("loss", y.account(11), 1);
            CoatPledges z = Banks.running(50);
            z.fee(fee);
            z.pass(9);
            Checks.same("left over at the fee " + fee, z.sell(0, 100), 100 - 59 - fee);
        }
    }

    private static void ownersWhoClaim() {
        Checks.promise(11);
        Checks.sentence("if there is no such owner");
        Checks.range("claim", Checks.BOUNDS, 0, 5, n -> new CoatPledges().claim(n));
        CoatPledges x = lots(6);
        for (int owner = 0; owner < 6; owner++) {
            x.sell(owner, 100 + owner);
        }
        for (int owner = 5; owner >= 0; owner--) {
            Checks.same("of owner " + owner, x.claim(owner), 80 + owner);
        }
    }

    private static void nothingLeft() {
        Checks.promise(11);
        Checks.sentence("reason 9, nothing is left over for the owner: how many of the pledges of the owner were sold");
        CoatPledges x = lots(14);
        Checks.refused("none sold", x, 9, 0, () -> x.claim(0));
        x.sell(0, 20);
        Checks.refused("one sold, nothing left over", x, 9, 1, () -> x.claim(0));
        x.sell(6, 21);
        Checks.same("one coin", x.claim(0), 1);
        Checks.refused("two sold, all claimed", x, 9, 2, () -> x.claim(0));
        x.sell(12, 20);
        Checks.refused("three sold", x, 9, 3, () -> x.claim(0));
        x.sell(1, 100);
        Checks.refused("not what is another's", x, 9, 3, () -> x.claim(0));
        Checks.refused("nor by what another sold", x, 9, 0, () -> x.claim(2));
        CoatPledges full = Banks.full();
        Checks.refused("no cash, but nothing is left over either", full, 9, 0, () -> full.claim(0));
    }

    private static void lastCoins() {
        Checks.promise(11);
        Checks.sentence("reason 3, there is not as much in cash: the cash");
        CoatPledges x = Banks.poor();
        Checks.same("left over", x.ownerOf(0, 5), 88);
        Checks.refused("one too few", x, 3, 87, () -> x.claim(0));
        Checks.same("what is left over stays", x.ownerOf(0, 5), 88);
        x.pay(2, 1);
        Checks.same("as much", x.claim(0), 88);
        Checks.same("cash", x.cash(false), 0);
        CoatPledges y = Banks.poor();
        y.pay(2, 2);
        Checks.same("more", y.claim(0), 88);
        Checks.same("cash behind it", y.cash(false), 1);
        CoatPledges z = Banks.poor();
        z.pledge(3, 999, 87);
        Checks.refused("no cash", z, 3, 0, () -> z.claim(0));
    }

    private static void keptUntilClaimed() {
        Checks.promise(11);
        Checks.sentence("What is left over for an owner is kept until the owner claims it");
        CoatPledges x = lots(13);
        x.sell(0, 100);
        x.pass(20);
        x.sell(6, 50);
        x.pass(20);
        Checks.same("both together", x.ownerOf(0, 5), 80 + 30);
        Checks.same("so far", x.ownerOf(0, 6), 0);
        Checks.same("claimed", x.claim(0), 110);
        Checks.same("left", x.ownerOf(0, 5), 0);
        Checks.same("claimed so far", x.ownerOf(0, 6), 110);
        x.sell(1, 40);
        x.claim(1);
        Checks.same("of another owner", x.ownerOf(1, 6), 20);
        Checks.same("the cash", x.cash(false), 2000 - 78 + 100 + 50 - 110 + 40 - 20);
        x.sell(12, 25);
        Checks.same("what is left over later", x.claim(0), 5);
        Checks.same("claimed in all", x.ownerOf(0, 6), 115);
        Checks.same("claimed by all owners", x.account(9), 135);
        Checks.refused("all is claimed", x, 9, 3, () -> x.claim(0));
    }

    private static void places() {
        Checks.sentence("if there is no such place");
        for (int number : new int[] {1, 2, 16}) {
            Checks.promise(12);
            Checks.range("lotAt", Checks.MISSING, 0, number - 1, n -> lots(number).lotAt(n));
            Checks.promise(13);
            Checks.range("ranked", Checks.MISSING, 0, number - 1, n -> lots(number).ranked(n));
        }
        for (int n = 0; n < 16; n++) {
            int place = n;
            Checks.promise(12);
            Checks.fails("no lot", Checks.MISSING, () -> Banks.with(16).lotAt(place));
            Checks.same("of 16", lots(16).lotAt(place), place);
            Checks.promise(13);
            Checks.fails("no rank", Checks.MISSING, () -> Banks.with(16).ranked(place));
            Checks.same("of 16 alike", lots(16).ranked(place), place);
        }
    }

    private static void placesInOrder() {
        Checks.promise(12);
        Checks.sentence("of several the one with the lower ticket first");
        CoatPledges x = Banks.with(6);
        x.pass(1);
        x.renew(4);
        x.renew(0);
        x.pass(1);
        x.renew(1);
        x.pledge(0, 10, 6);
        x.pass(9);
        int[] order = {2, 3, 5, 0, 4, 1, 6};
        for (int place = 0; place < order.length; place++) {
            Checks.same("place " + place, x.lotAt(place), order[place]);
        }
        CoatPledges y = Banks.with(6);
        y.pass(1);
        y.renew(4);
        y.renew(0);
        y.pass(1);
        y.renew(1);
        y.pledge(0, 10, 6);
        for (int week = 0; week < 9; week++) {
            y.pass(1);
        }
        for (int place = 0; place < order.length; place++) {
            Checks.same("week by week, place " + place, y.lotAt(place), order[place]);
        }
    }

    private static void placesBehindSales() {
        Checks.promise(12);
        Checks.sentence("Returns the ticket of a lot, in the order in which they became lots");
        CoatPledges x = lots(4);
        x.sell(2, 20);
        x.sell(0, 20);
        Checks.same("first", x.lotAt(0), 1);
        Checks.same("last", x.lotAt(1), 3);
        Checks.fails("no third", Checks.MISSING, () -> x.lotAt(2));
        x.sell(1, 20);
        x.sell(3, 20);
        Checks.fails("no lot any more", Checks.MISSING, () -> x.lotAt(0));
        Checks.promise(13);
        Checks.fails("no rank any more", Checks.MISSING, () -> x.ranked(0));
        x.undo();
        Checks.same("one rank", x.ranked(0), 3);
        Checks.promise(12);
        Checks.same("one lot", x.lotAt(0), 3);
    }

    private static void ranksByReserve() {
        Checks.promise(13);
        Checks.sentence("by its reserve: the greatest first");
        CoatPledges x = new CoatPledges();
        int[] loans = {49, 50, 48, 1, 47};
        for (int loan : loans) {
            x.pledge(0, 999, loan);
        }
        x.pass(9);
        int[] order = {1, 0, 2, 4, 3};
        for (int place = 0; place < order.length; place++) {
            Checks.same("one coin apart, place " + place, x.ranked(place), order[place]);
        }
        x.pledge(0, 999, 40);
        x.pass(8);
        Checks.same("both fell to 30", x.ranked(0), 0);
        Checks.fails("a running pledge has no rank", Checks.MISSING, () -> x.ranked(5));
        x.pass(1);
        Checks.same("by the reserve as it is, not as it was", x.ranked(0), 5);
    }

    private static void ranksAlike() {
        Checks.promise(13);
        Checks.sentence("of several the lowest ticket");
        CoatPledges x = new CoatPledges();
        x.fee(4);
        x.pledge(0, 999, 6);
        x.pledge(0, 999, 7);
        x.pass(9);
        Checks.same("20 ahead of 19", x.ranked(0), 1);
        Checks.same("19 behind 20", x.ranked(1), 0);
        x.pass(1);
        Checks.same("both are 18: the lower ticket", x.ranked(0), 0);
        Checks.same("both are 18: the higher ticket", x.ranked(1), 1);
        CoatPledges y = new CoatPledges();
        y.pledge(0, 999, 40);
        y.pledge(0, 999, 40);
        y.pass(1);
        y.renew(0);
        y.pass(8);
        y.fee(0);
        y.pass(1);
        Checks.same("54 becomes 49", y.pledgeOf(1, 7), 49);
        Checks.same("40 and 9", y.pledgeOf(0, 7), 49);
        Checks.same("the lower ticket, though it is the later lot", y.ranked(0), 0);
        Checks.same("the higher ticket", y.ranked(1), 1);
        Checks.same("the earlier lot", y.lotAt(0), 1);
    }

    private static void quotedWeeks() {
        Checks.sentence("weeks: behind how many weeks, 0 to 20");
        Checks.promise(14);
        Checks.range("weeks", Checks.ARGUMENT, 0, 20, n -> Banks.running(50).quote(0, n));
        Checks.promise(15);
        Checks.range("weeks", Checks.ARGUMENT, 0, 20, n -> Banks.running(50).quoteAgain(0, n));
    }

    private static void quotesInEachWeek() {
        for (int week = 0; week <= 8; week++) {
            CoatPledges x = Banks.behind(week, Banks.running(300));
            for (int weeks = 0; weeks <= 20; weeks++) {
                int ahead = weeks;
                Object due = week + weeks <= 8 ? (Object) (300 + 6 * (week + weeks)) : Checks.STATE;
                String what = "in week " + week + " behind " + weeks;
                Checks.promise(14);
                Checks.sentence("if it is not running then");
                Checks.same(what, Checks.outcome(() -> x.quote(0, ahead)), due);
                Checks.promise(15);
                Checks.sentence("if it is not running then");
                Checks.same(what, Checks.outcome(() -> x.quoteAgain(0, ahead)), due);
            }
        }
    }

    private static void quotesOfNoRunningPledge() {
        CoatPledges[] banks = {Banks.lot(50), Banks.redeemed(), Banks.sold()};
        for (CoatPledges x : banks) {
            for (int weeks = 0; weeks <= 20; weeks++) {
                int ahead = weeks;
                Checks.promise(14);
                Checks.sentence("if it is not running then");
                Checks.fails("behind " + weeks, Checks.STATE, () -> x.quote(0, ahead));
                Checks.promise(15);
                Checks.sentence("if it is not running then");
                Checks.fails("behind " + weeks, Checks.STATE, () -> x.quoteAgain(0, ahead));
            }
        }
    }

    private static void quotesComeTrue() {
        int[][] rows = {{1, 1}, {1, 599}, {20, 50}, {20, 51}, {60, 1}, {60, 599}, {37, 270}};
        for (int[] row : rows) {
            for (int weeks = 0; weeks <= 6; weeks++) {
                CoatPledges x = Banks.atRate(row[0]);
                x.pledge(0, 999, row[1]);
                x.pass(2);
                x.renew(0);
                int quote = x.quote(0, weeks);
                int again = x.quoteAgain(0, weeks);
                Banks.behind(weeks, x);
                int paid = x.redeem(0);
                Checks.promise(14);
                Checks.sentence("Returns what it will cost to redeem a coat");
                Checks.same(row[1] + " at " + row[0] + " behind " + weeks, quote, paid);
                Checks.promise(15);
                Checks.sentence("Returns the same by a second way");
                Checks.same(row[1] + " at " + row[0] + " behind " + weeks, again, paid);
            }
        }
    }

    private static void weeksOfLots() {
        Checks.sentence("weeks: in how many weeks, 0 to 20");
        Checks.promise(16);
        Checks.range("weeks", Checks.ARGUMENT, 0, 20, n -> Banks.with(2).willBeLots(n));
        Checks.promise(17);
        Checks.range("weeks", Checks.ARGUMENT, 0, 20, n -> Banks.with(2).willBeLotsAgain(n));
    }

    private static void weekOfTheLot() {
        for (int week = 0; week <= 9; week++) {
            CoatPledges x = Banks.behind(week, Banks.with(16));
            for (int weeks = 0; weeks <= 20; weeks++) {
                int due = week <= 8 && week + weeks >= 9 ? 16 : 0;
                Checks.promise(16);
                Checks.sentence("how many pledges will become lots");
                Checks.same("in week " + week + " ahead " + weeks, x.willBeLots(weeks), due);
                Checks.promise(17);
                Checks.sentence("how many pledges will become lots");
                Checks.same("in week " + week + " ahead " + weeks, x.willBeLotsAgain(weeks), due);
            }
        }
    }

    private static void whatWillBeNoLot() {
        CoatPledges x = Banks.with(5);
        x.pass(4);
        x.renew(1);
        x.pass(5);
        x.sell(0, 50);
        x.pledge(0, 10, 6);
        x.pledge(0, 10, 6);
        x.redeem(6);
        int[][] due = {{0, 0}, {3, 0}, {4, 1}, {8, 1}, {9, 2}, {20, 2}};
        for (int[] row : due) {
            Checks.promise(16);
            Checks.sentence("how many pledges will become lots");
            Checks.same("in " + row[0], x.willBeLots(row[0]), row[1]);
            Checks.promise(17);
            Checks.sentence("how many pledges will become lots");
            Checks.same("in " + row[0], x.willBeLotsAgain(row[0]), row[1]);
        }
        Checks.promise(16);
        Checks.same("as it comes", x.pass(20), 2);
    }

    private static void weeksOfReserves() {
        Checks.promise(18);
        Checks.sentence("weeks: behind how many weeks, 0 to 20");
        Checks.range("weeks", Checks.ARGUMENT, 0, 20, n -> Banks.lot(50).willReserve(0, n));
        Checks.sentence("if it is no lot now");
        for (int weeks = 0; weeks <= 20; weeks++) {
            int ahead = weeks;
            Checks.fails("running", Checks.STATE, () -> Banks.behind(8, Banks.running(50)).willReserve(0, ahead));
            Checks.fails("redeemed", Checks.STATE, () -> Banks.redeemed().willReserve(0, ahead));
            Checks.fails("sold", Checks.STATE, () -> Banks.sold().willReserve(0, ahead));
        }
    }

    private static void reservesComeTrue() {
        Checks.promise(18);
        Checks.sentence("Returns what the reserve of a lot will be");
        for (int loan : new int[] {1, 4, 5, 6, 50, 599}) {
            for (int weeks = 0; weeks <= 20; weeks++) {
                CoatPledges x = Banks.lot(loan);
                int reserve = x.willReserve(0, weeks);
                Banks.behind(weeks, x);
                Checks.same(loan + " behind " + weeks, reserve, x.pledgeOf(0, 7));
            }
        }
        CoatPledges x = Banks.behind(1, Banks.lot(50));
        Checks.same("behind no week", x.willReserve(0, 0), 58);
        Checks.same("behind one", x.willReserve(0, 1), 53);
    }

    private static void aheadChangesNothing() {
        CoatPledges x = Banks.worn();
        String before = Checks.stateOf(x);
        int changes = x.account(15);
        Checks.Call[] calls = {() -> x.quote(3, 7), () -> x.quoteAgain(3, 7), () -> x.willBeLots(20),
            () -> x.willBeLotsAgain(20), () -> x.willReserve(1, 20), x::isWell, () -> x.lotAt(0), () -> x.ranked(0)};
        int[] promises = {14, 15, 16, 17, 18, 21, 12, 13};
        for (int n = 0; n < calls.length; n++) {
            Checks.promise(promises[n]);
            Checks.sentence("What comes is told as if only weeks went by");
            Checks.outcome(calls[n]);
            Checks.same("call " + n + " changes nothing", Checks.outcome(() -> x.account(15)), changes);
        }
        Checks.same("all as before", Checks.stateOf(x), before);
    }
}
