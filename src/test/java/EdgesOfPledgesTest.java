/** Promises 1 to 9 at their edges: the last that is still right and the first that is not, on both sides. */
public final class EdgesOfPledgesTest {
    public static void main(String[] args) {
        newCash();
        newNumbers();
        noPledges();
        banksOfTheirOwn();
        owners();
        worths();
        loansFromOne();
        greatestLoans();
        sixteenTickets();
        sixteenInAll();
        lastCoins();
        rates();
        laterPledges();
        fees();
        laterLots();
        weeks();
        weekByWeek();
        newLots();
        weeklyInterest();
        interestOfTheLoanAsItIs();
        noInterestOfInterest();
        noInterestOfOthers();
        weekOfTheLot();
        termsAnew();
        reserveOfALot();
        tenths();
        whatIsRedeemed();
        redeemingInEachWeek();
        ticketsOfChanges();
        amounts();
        interestFirst();
        allButOne();
        renewing();
        renewingInEachWeek();
        whats();
        reservesOfNoLot();
        allThatWasPaid();
        Checks.end("EdgesOfPledgesTest");
    }

    private static void newCash() {
        Checks.promise(1);
        Checks.sentence("2000 coins in cash");
        CoatPledges x = new CoatPledges();
        for (int n = 0; n < 3; n++) {
            x.pledge(n, 999, 599);
        }
        Checks.refused("2001 in all", x, 3, 203, () -> x.pledge(3, 999, 204));
        Checks.same("2000 in all", x.pledge(3, 999, 203), 3);
        Checks.same("cash", x.cash(false), 0);
    }

    private static void newNumbers() {
        Checks.promise(1);
        Checks.sentence("in the week 0, with the rate 20 and the fee 5");
        CoatPledges x = new CoatPledges();
        Checks.refused("rate", x, 10, 20, () -> x.rate(20));
        Checks.refused("fee", x, 10, 5, () -> x.fee(5));
        Checks.same("week", x.save(), 0);
        x.pledge(0, 999, 500);
        Checks.same("first term", x.pledgeOf(0, 5), 0);
        Checks.same("first rate", x.pledgeOf(0, 6), 20);
        x.pass(9);
        Checks.same("first reserve", x.pledgeOf(0, 7), 500 + 9 * 10 + 5);
    }

    private static void noPledges() {
        Checks.promise(1);
        Checks.sentence("without pledges");
        CoatPledges x = new CoatPledges();
        Checks.Call[] ofTicket = {() -> x.redeem(0), () -> x.pay(0, 1), () -> x.renew(0), () -> x.pledgeOf(0, 0),
            () -> x.sell(0, 1), () -> x.quote(0, 0), () -> x.quoteAgain(0, 0), () -> x.willReserve(0, 0),
            () -> x.line(0), () -> x.lotAt(0), () -> x.ranked(0)};
        for (int n = 0; n < ofTicket.length; n++) {
            Checks.fails("call " + n, Checks.MISSING, ofTicket[n]);
        }
        for (int owner = 0; owner < 6; owner++) {
            for (int what = 0; what < 7; what++) {
                Checks.same("owner " + owner + ", " + what, x.ownerOf(owner, what), 0);
            }
        }
        Checks.same("will be lots", x.willBeLots(20) + x.willBeLotsAgain(20), 0);
        Checks.same("weeks go by all the same", x.pass(20), 0);
        Checks.same("well", x.isWell(), true);
        Checks.refused("no claim", x, 9, 0, () -> x.claim(5));
    }

    private static void banksOfTheirOwn() {
        Checks.promise(1);
        Checks.sentence("Creates a bank");
        CoatPledges x = new CoatPledges();
        CoatPledges y = new CoatPledges();
        x.pledge(0, 200, 120);
        x.rate(7);
        x.fee(7);
        x.pass(3);
        x.save();
        x.line(0);
        x.append('q');
        Checks.outcome(() -> x.rate(7));
        Checks.same("the other stays", Checks.stateOf(y), Checks.stateOf(new CoatPledges()));
        Checks.same("its input", y.account(14), 0);
        Checks.fails("its line", Checks.BOUNDS, () -> y.character(0));
        Checks.fails("its reason", Checks.MISSING, () -> y.refusal(false, false));
        Checks.fails("its changes", Checks.STATE, y::undo);
        Checks.fails("its snapshot", Checks.STATE, y::restore);
        Checks.outcome(x::run);
        Checks.same("its error position", y.errorPosition(), -1);
    }

    private static void owners() {
        Checks.promise(2);
        Checks.sentence("an owner, from 0 to 5");
        Checks.range("owner", Checks.BOUNDS, 0, 5, n -> new CoatPledges().pledge(n, 10, 6));
        CoatPledges x = new CoatPledges();
        for (int owner = 0; owner < 6; owner++) {
            Checks.same("ticket", x.pledge(owner, 10, 6), owner);
            Checks.same("owner", x.pledgeOf(owner, 0), owner);
        }
    }

    private static void worths() {
        Checks.promise(2);
        Checks.sentence("what the coat is worth, from 1 to 999");
        Checks.range("worth", Checks.ARGUMENT, 1, 999, n -> new CoatPledges().pledge(0, n, 1));
        CoatPledges x = new CoatPledges();
        Checks.refused("1 is right, the loan is not", x, 2, 0, () -> x.pledge(0, 1, 1));
        x.pledge(0, 2, 1);
        x.pledge(0, 999, 1);
        Checks.same("least", x.pledgeOf(0, 1), 2);
        Checks.same("most", x.pledgeOf(1, 1), 999);
    }

    private static void loansFromOne() {
        Checks.promise(2);
        Checks.sentence("if the loan is below 1");
        for (int loan : new int[] {0, -1, -600, Integer.MIN_VALUE}) {
            Checks.fails("loan " + loan, Checks.ARGUMENT, () -> new CoatPledges().pledge(0, 999, loan));
            Checks.fails("loan " + loan + " on 1", Checks.ARGUMENT, () -> new CoatPledges().pledge(0, 1, loan));
        }
        Checks.same("loan 1", Banks.running(1).pledgeOf(0, 2), 1);
        for (int loan : new int[] {600, 65536, Integer.MAX_VALUE}) {
            CoatPledges x = new CoatPledges();
            Checks.refused("loan " + loan, x, 2, 599, () -> x.pledge(0, 999, loan));
        }
    }

    private static void greatestLoans() {
        Checks.promise(2);
        Checks.sentence("The loan is at most 60 hundredths of what the coat is worth");
        int most = 0;
        for (int worth = 1; worth <= 999; worth++) {
            while (100 * (most + 1) <= 60 * worth) {
                most++;
            }
            CoatPledges x = new CoatPledges();
            int due = most;
            int itsWorth = worth;
            Checks.refused("one more on " + worth, x, 2, due, () -> x.pledge(0, itsWorth, due + 1));
            Checks.same("most on " + worth, due == 0 ? 0 : x.pledge(0, worth, due), 0);
        }
    }

    private static void sixteenTickets() {
        Checks.promise(2);
        Checks.sentence("At most 16 pledges are made in all; their tickets are numbered from 0");
        CoatPledges x = new CoatPledges();
        for (int n = 0; n < 16; n++) {
            Checks.same("ticket", x.pledge(5, 10, 6), n);
            Checks.same("made", x.account(1), n + 1);
            int next = n + 1;
            Checks.fails("ticket " + next + " so far", Checks.MISSING, () -> x.pledgeOf(next, 0));
        }
        Checks.refused("17th", x, 1, 16, () -> x.pledge(5, 10, 6));
        Checks.same("made", x.account(1), 16);
        Checks.same("loans", x.account(6), 96);
    }

    private static void sixteenInAll() {
        Checks.promise(2);
        Checks.sentence("reason 1, there are 16 pledges");
        CoatPledges redeemed = Banks.with(16);
        for (int n = 0; n < 16; n++) {
            redeemed.redeem(n);
        }
        Checks.refused("all redeemed", redeemed, 1, 16, () -> redeemed.pledge(0, 10, 6));
        CoatPledges sold = Banks.with(16);
        sold.pass(9);
        Checks.refused("all lots", sold, 1, 16, () -> sold.pledge(0, 10, 6));
        for (int n = 0; n < 16; n++) {
            sold.sell(n, 20);
        }
        Checks.refused("all sold", sold, 1, 16, () -> sold.pledge(0, 10, 6));
        CoatPledges back = Banks.with(15);
        back.save();
        back.pledge(0, 10, 6);
        Checks.refused("16", back, 1, 16, () -> back.pledge(0, 10, 6));
        back.undo();
        Checks.same("behind undo", back.pledge(0, 10, 6), 15);
        back.restore();
        Checks.same("behind restore", back.pledge(0, 10, 6), 15);
    }

    private static void lastCoins() {
        Checks.promise(2);
        Checks.sentence("reason 3, there is not as much in cash");
        CoatPledges x = new CoatPledges();
        x.pledge(0, 999, 599);
        x.pledge(0, 999, 599);
        x.pledge(0, 999, 599);
        x.pledge(0, 999, 201);
        Checks.refused("one more than the cash", x, 3, 2, () -> x.pledge(0, 5, 3));
        Checks.same("less than the cash", x.pledge(0, 2, 1), 4);
        Checks.same("as much as the cash", x.pledge(0, 2, 1), 5);
        Checks.refused("no cash", x, 3, 0, () -> x.pledge(0, 2, 1));
        x.pay(0, 1);
        Checks.refused("one coin", x, 3, 1, () -> x.pledge(0, 4, 2));
        Checks.same("what was paid is paid out", x.pledge(0, 2, 1), 6);
        Checks.same("cash", x.cash(false), 0);
    }

    private static void rates() {
        Checks.promise(3);
        Checks.sentence("rate: the rate, from 1 to 60");
        Checks.range("rate", Checks.ARGUMENT, 1, 60, n -> new CoatPledges().rate(n));
        CoatPledges x = new CoatPledges();
        int before = 20;
        for (int rate : new int[] {1, 60, 21, 20, 19}) {
            Checks.same("the rate before " + rate, x.rate(rate), before);
            Checks.same("the rate", x.account(12), rate);
            Checks.refused("so already", x, 10, rate, () -> x.rate(rate));
            before = rate;
        }
        Checks.same("changes", x.account(15), 5);
    }

    private static void laterPledges() {
        Checks.promise(3);
        Checks.sentence("Sets the rate of later pledges");
        CoatPledges x = new CoatPledges();
        x.pledge(0, 999, 500);
        x.rate(60);
        x.pledge(0, 999, 500);
        x.rate(1);
        x.pledge(0, 999, 500);
        x.pass(1);
        int[] rates = {20, 60, 1};
        int[] interest = {10, 30, 1};
        for (int n = 0; n < 3; n++) {
            Checks.same("rate of " + n, x.pledgeOf(n, 6), rates[n]);
            Checks.same("interest of " + n, x.pledgeOf(n, 3), interest[n]);
        }
        Checks.sentence("To renew changes no rate");
        x.renew(1);
        Checks.same("rate", x.pledgeOf(1, 6), 60);
        x.pass(1);
        Checks.same("interest", x.pledgeOf(1, 3), 30);
    }

    private static void fees() {
        Checks.promise(4);
        Checks.sentence("fee: the fee, from 0 to 20");
        Checks.range("fee", Checks.ARGUMENT, 0, 20, n -> new CoatPledges().fee(n));
        CoatPledges x = new CoatPledges();
        int before = 5;
        for (int fee : new int[] {0, 20, 6, 5, 4}) {
            Checks.same("the fee before " + fee, x.fee(fee), before);
            Checks.same("the fee", x.account(13), fee);
            Checks.refused("so already", x, 10, fee, () -> x.fee(fee));
            before = fee;
        }
        Checks.same("changes", x.account(15), 5);
    }

    private static void laterLots() {
        Checks.promise(4);
        Checks.sentence("Sets the fee of later lots");
        CoatPledges x = Banks.running(50);
        x.pass(1);
        x.pledge(0, 999, 50);
        x.fee(0);
        x.pass(7);
        x.fee(20);
        x.pass(1);
        Checks.same("the fee as it becomes a lot", x.pledgeOf(0, 7), 50 + 9 + 20);
        x.fee(3);
        Checks.same("a lot keeps its reserve", x.pledgeOf(0, 7), 79);
        x.pass(1);
        Checks.same("the later lot", x.pledgeOf(1, 7), 50 + 9 + 3);
        Checks.same("the first falls by a tenth alone", x.pledgeOf(0, 7), 72);
    }

    private static void weeks() {
        Checks.promise(5);
        Checks.sentence("weeks: how many, 1 to 20");
        Checks.range("weeks", Checks.ARGUMENT, 1, 20, n -> new CoatPledges().pass(n));
        for (int n = 1; n <= 20; n++) {
            CoatPledges x = new CoatPledges();
            x.pass(n);
            Checks.same("week behind " + n, x.account(0), n);
        }
        CoatPledges late = new CoatPledges();
        for (int n = 1; n <= 480; n++) {
            late.pass(20);
        }
        late.pledge(0, 999, 300);
        Checks.same("a late term", late.pledgeOf(0, 5), 9600);
        Checks.same("a late quote", late.quote(0, 8), 348);
        Checks.same("eight weeks of it", late.pass(8), 0);
        Checks.same("the ninth", late.pass(1), 1);
        Checks.same("a late week", late.account(0), 9609);
    }

    private static void weekByWeek() {
        Checks.promise(5);
        Checks.sentence("Lets weeks go by");
        for (int n = 1; n <= 20; n++) {
            CoatPledges at = Banks.with(3);
            CoatPledges one = Banks.with(3);
            int lots = 0;
            for (int week = 0; week < n; week++) {
                lots += one.pass(1);
            }
            Checks.same("lots in " + n, at.pass(n), lots);
            Checks.same("all behind " + n, Checks.stateOf(at), Checks.stateOf(one));
            Checks.same("changes", at.account(15), 4);
        }
    }

    private static void newLots() {
        Checks.promise(5);
        Checks.sentence("Returns how many pledges become lots");
        CoatPledges x = new CoatPledges();
        Checks.same("no pledge", x.pass(1), 0);
        for (int n = 0; n < 15; n++) {
            x.pledge(0, 10, 6);
        }
        Checks.same("week 8", x.pass(8), 0);
        x.pledge(0, 10, 6);
        Checks.same("15 of 16", x.pass(1), 15);
        Checks.same("lots before are not counted", x.pass(8), 1);
        Checks.same("none any more", x.pass(20), 0);
        Checks.same("16 lots", x.account(3), 16);
        Checks.same("16 at once", Banks.with(16).pass(20), 16);
    }

    private static void weeklyInterest() {
        Checks.promise(5);
        Checks.sentence("the loan as it is, times its rate, divided by 1000, rounded up");
        for (int rate = 1; rate <= 60; rate++) {
            for (int first = 1; first <= 599; first += 100) {
                CoatPledges x = Banks.atRate(rate);
                for (int loan = first; loan < first + 100 && loan <= 599; loan++) {
                    x.pledge(0, 999, loan);
                    x.pass(1);
                    int interest = x.pledgeOf(0, 3);
                    Checks.same(loan + " at " + rate + " gets " + interest + ", as few as are enough",
                        1000 * interest >= loan * rate && 1000 * (interest - 1) < loan * rate, true);
                    x.undo();
                    x.undo();
                }
            }
        }
    }

    private static void interestOfTheLoanAsItIs() {
        Checks.promise(5);
        Checks.sentence("interest: the loan as it is");
        CoatPledges x = Banks.running(101);
        x.pay(0, 1);
        x.pass(1);
        Checks.same("of 100, not of 101", x.pledgeOf(0, 3), 2);
        x.pay(0, 52);
        x.pass(1);
        Checks.same("of 50", x.pledgeOf(0, 3), 1);
        x.renew(0);
        x.pay(0, 49);
        x.pass(1);
        Checks.same("of 1", x.pledgeOf(0, 3), 1);
    }

    private static void noInterestOfInterest() {
        Checks.promise(5);
        Checks.sentence("What is owed is the loan and all interest that came and is not paid");
        CoatPledges x = Banks.running(50);
        for (int week = 1; week <= 8; week++) {
            x.pass(1);
            Checks.same("interest of week " + week, x.pledgeOf(0, 3), week);
            Checks.same("owed in week " + week, x.ownerOf(0, 1), 50 + week);
        }
        x.pay(0, 3);
        Checks.same("owed behind a part", x.ownerOf(0, 1), 55);
        x.pay(0, 5);
        Checks.same("owed without interest", x.ownerOf(0, 1), 50);
    }

    private static void noInterestOfOthers() {
        Checks.promise(5);
        Checks.sentence("A lot gets no interest");
        CoatPledges x = Banks.lot(50);
        x.pledge(1, 999, 50);
        x.pledge(2, 999, 50);
        x.redeem(2);
        x.pass(1);
        Checks.same("the lot", x.pledgeOf(0, 3), 9);
        Checks.same("running", x.pledgeOf(1, 3), 1);
        Checks.same("redeemed", x.pledgeOf(2, 3), 0);
        x.sell(0, 100);
        x.pass(20);
        Checks.same("sold", x.pledgeOf(0, 3), 9);
        Checks.same("a lot on the way", x.pledgeOf(1, 3), 9);
        Checks.same("sold for good", x.pledgeOf(0, 4), 3);
        Checks.same("redeemed for good", x.pledgeOf(2, 4), 2);
    }

    private static void weekOfTheLot() {
        Checks.promise(5);
        Checks.sentence("becomes a lot as the week becomes 9, with nine weeks of interest");
        for (int made = 0; made <= 20; made++) {
            CoatPledges x = Banks.behind(made, new CoatPledges());
            x.pledge(0, 999, 300);
            Checks.same("eight weeks", x.pass(8), 0);
            Checks.same("running", x.pledgeOf(0, 4), 0);
            Checks.same("interest of eight", x.pledgeOf(0, 3), 48);
            Checks.same("the ninth", x.pass(1), 1);
            Checks.same("a lot", x.pledgeOf(0, 4), 1);
            Checks.same("week", x.account(0), made + 9);
            Checks.same("interest of nine", x.pledgeOf(0, 3), 54);
            Checks.same("term", x.pledgeOf(0, 5), made);
        }
    }

    private static void termsAnew() {
        Checks.promise(5);
        Checks.sentence("The term of a pledge begins as it is made, and anew as it is renewed");
        for (int renewed = 1; renewed <= 8; renewed++) {
            CoatPledges x = Banks.running(300);
            x.pass(renewed);
            x.renew(0);
            Checks.same("term", x.pledgeOf(0, 5), renewed);
            Checks.same("eight weeks", x.pass(8), 0);
            Checks.same("the ninth", x.pass(1), 1);
            Checks.same("nine weeks of interest", x.pledgeOf(0, 3), 54);
        }
        CoatPledges x = Banks.running(300);
        x.pass(8);
        x.pay(0, 48);
        Checks.same("to pay begins no term", x.pledgeOf(0, 5), 0);
        Checks.same("a lot all the same", x.pass(1), 1);
    }

    private static void reserveOfALot() {
        Checks.promise(5);
        Checks.sentence("The reserve of a lot is what is owed, and the fee, together, as it becomes a lot");
        for (int fee : new int[] {0, 4, 20}) {
            CoatPledges x = Banks.running(300);
            x.fee(fee);
            x.pass(8);
            x.pay(0, 50);
            Checks.same("no reserve so far", x.pledgeOf(0, 7), 0);
            x.pass(1);
            Checks.same("no tenth less in its week", x.pledgeOf(0, 7), 298 + 6 + fee);
        }
    }

    private static void tenths() {
        Checks.promise(5);
        Checks.sentence("The tenth by which a reserve becomes less is rounded down");
        int[][] falls = {{9, 9}, {10, 9}, {11, 10}, {19, 18}, {20, 18}, {21, 19}, {99, 90}, {100, 90}, {101, 91}};
        for (int[] fall : falls) {
            CoatPledges x = withReserve(fall[0]);
            Checks.same("reserve", x.pledgeOf(0, 7), fall[0]);
            x.pass(1);
            Checks.same("behind a week of " + fall[0], x.pledgeOf(0, 7), fall[1]);
        }
        CoatPledges x = withReserve(2);
        x.pass(20);
        Checks.same("the least reserve stays", x.pledgeOf(0, 7), 2);
    }

    /** The interest is paid in the week 8, so that one coin of it comes with the lot; without a fee. */
    private static CoatPledges withReserve(int reserve) {
        CoatPledges x = new CoatPledges();
        x.fee(0);
        x.rate(1);
        x.pledge(0, 999, reserve - 1);
        x.pass(8);
        x.pay(0, 8);
        x.pass(1);
        return x;
    }

    private static void whatIsRedeemed() {
        Checks.promise(6);
        Checks.sentence("Behind redeeming the loan and the interest are 0");
        CoatPledges x = Banks.running(300);
        x.pass(3);
        Checks.same("loan and interest", x.redeem(0), 318);
        Checks.same("loan", x.pledgeOf(0, 2), 0);
        Checks.same("interest", x.pledgeOf(0, 3), 0);
        Checks.same("cash", x.cash(false), 2018);
        Checks.same("nothing is owed", x.ownerOf(0, 1), 0);
        Checks.sentence("those of a lot and of what is sold stay as they were");
        CoatPledges y = Banks.lot(300);
        Checks.same("loan of a lot", y.pledgeOf(0, 2), 300);
        Checks.same("interest of a lot", y.pledgeOf(0, 3), 54);
        y.sell(0, 400);
        Checks.same("loan of what is sold", y.pledgeOf(0, 2), 300);
        Checks.same("interest of what is sold", y.pledgeOf(0, 3), 54);
    }

    private static void redeemingInEachWeek() {
        Checks.promise(6);
        Checks.sentence("reason 4, the pledge is not running: what it is");
        for (int week = 0; week <= 8; week++) {
            CoatPledges x = Banks.behind(week, Banks.running(300));
            Checks.same("in week " + week, x.redeem(0), 300 + 6 * week);
        }
        CoatPledges lot = Banks.lot(300);
        Checks.refused("a lot", lot, 4, 1, () -> lot.redeem(0));
        CoatPledges redeemed = Banks.redeemed();
        Checks.refused("redeemed", redeemed, 4, 2, () -> redeemed.redeem(0));
        CoatPledges sold = Banks.sold();
        Checks.refused("sold", sold, 4, 3, () -> sold.redeem(0));
    }

    private static void ticketsOfChanges() {
        Checks.sentence("if there is no such ticket");
        for (int made : new int[] {1, 2, 16}) {
            Checks.promise(6);
            Checks.range("redeem", Checks.MISSING, 0, made - 1, n -> Banks.with(made).redeem(n));
            Checks.promise(7);
            Checks.range("pay", Checks.MISSING, 0, made - 1, n -> Banks.with(made).pay(n, 1));
            Checks.promise(8);
            Checks.range("renew", Checks.MISSING, 0, made - 1, n -> Banks.with(made).renew(n));
            Checks.promise(9);
            Checks.range("pledgeOf", Checks.MISSING, 0, made - 1, n -> Banks.with(made).pledgeOf(n, 0));
        }
    }

    private static void amounts() {
        Checks.promise(7);
        Checks.sentence("if the amount is below 1");
        for (int amount : new int[] {0, -1, -60, Integer.MIN_VALUE}) {
            Checks.fails("amount " + amount, Checks.ARGUMENT, () -> Banks.running(60).pay(0, amount));
        }
        Checks.same("amount 1", Banks.running(60).pay(0, 1), 59);
        Checks.sentence("reason 4, the pledge is not running: what it is");
        CoatPledges lot = Banks.lot(60);
        Checks.refused("a lot", lot, 4, 1, () -> lot.pay(0, 1));
        CoatPledges redeemed = Banks.redeemed();
        Checks.refused("redeemed", redeemed, 4, 2, () -> redeemed.pay(0, 1));
        CoatPledges sold = Banks.sold();
        Checks.refused("sold", sold, 4, 3, () -> sold.pay(0, 1));
    }

    private static void interestFirst() {
        Checks.promise(7);
        Checks.sentence("To pay a part pays interest first, and then the loan");
        int[][] due = {{1, 300, 11}, {11, 300, 1}, {12, 300, 0}, {13, 299, 0}, {311, 1, 0}};
        for (int[] row : due) {
            CoatPledges x = Banks.running(300);
            x.pass(2);
            Checks.same("still owed behind " + row[0], x.pay(0, row[0]), 312 - row[0]);
            Checks.same("loan behind " + row[0], x.pledgeOf(0, 2), row[1]);
            Checks.same("interest behind " + row[0], x.pledgeOf(0, 3), row[2]);
            Checks.same("running behind " + row[0], x.pledgeOf(0, 4), 0);
            Checks.same("cash behind " + row[0], x.cash(false), 1700 + row[0]);
        }
    }

    private static void allButOne() {
        Checks.promise(7);
        Checks.sentence("reason 5, the amount is what is owed, or more: what is owed");
        for (int weeks : new int[] {1, 8}) {
            CoatPledges x = Banks.running(300);
            x.pass(weeks);
            int owed = 300 + 6 * weeks;
            Checks.refused("what is owed", x, 5, owed, () -> x.pay(0, owed));
            Checks.refused("one more", x, 5, owed, () -> x.pay(0, owed + 1));
            Checks.refused("the most", x, 5, owed, () -> x.pay(0, Integer.MAX_VALUE));
            Checks.same("one less", x.pay(0, owed - 1), 1);
            Checks.refused("the last coin", x, 5, 1, () -> x.pay(0, 1));
        }
    }

    private static void renewing() {
        Checks.promise(8);
        Checks.sentence("reason 6, no interest is owed: the loan");
        CoatPledges x = Banks.running(300);
        Checks.refused("as it is made", x, 6, 300, () -> x.renew(0));
        x.pay(0, 1);
        Checks.refused("the loan as it is", x, 6, 299, () -> x.renew(0));
        x.pass(1);
        Checks.same("behind a week", x.renew(0), 6);
        Checks.refused("again", x, 6, 299, () -> x.renew(0));
        x.pass(1);
        x.pay(0, 5);
        Checks.same("one coin of interest", x.renew(0), 1);
        x.pass(1);
        x.pay(0, 6);
        Checks.refused("the interest is paid", x, 6, 299, () -> x.renew(0));
        Checks.sentence("To renew a pledge pays all its interest. What is paid goes into the cash");
        x.pass(7);
        Checks.same("all of it", x.renew(0), 42);
        Checks.same("interest", x.pledgeOf(0, 3), 0);
        Checks.same("loan", x.pledgeOf(0, 2), 299);
        Checks.same("cash", x.cash(false), 2000 - 299 + 6 + 5 + 1 + 6 + 42);
    }

    private static void renewingInEachWeek() {
        Checks.promise(8);
        Checks.sentence("reason 4, the pledge is not running: what it is");
        for (int week = 1; week <= 8; week++) {
            CoatPledges x = Banks.running(300);
            x.pass(week);
            Checks.same("in week " + week, x.renew(0), 6 * week);
        }
        CoatPledges lot = Banks.lot(300);
        Checks.refused("a lot", lot, 4, 1, () -> lot.renew(0));
        CoatPledges redeemed = Banks.redeemed();
        Checks.refused("redeemed", redeemed, 4, 2, () -> redeemed.renew(0));
        CoatPledges sold = Banks.sold();
        Checks.refused("sold", sold, 4, 3, () -> sold.renew(0));
    }

    private static void whats() {
        Checks.promise(9);
        Checks.sentence("if what is not from 0 to 8");
        Checks.range("what", Checks.ARGUMENT, 0, 8, n -> Banks.running(60).pledgeOf(0, n));
        CoatPledges x = new CoatPledges();
        x.pass(2);
        x.rate(41);
        x.pledge(3, 500, 200);
        x.pass(1);
        x.pay(0, 2);
        int[] due = {3, 500, 200, 7, 0, 2, 41, 0, 2};
        for (int what = 0; what <= 8; what++) {
            Checks.same("what " + what, x.pledgeOf(0, what), due[what]);
        }
    }

    private static void reservesOfNoLot() {
        Checks.promise(9);
        Checks.sentence("7 for its reserve, 0 if it is no lot");
        Checks.same("running", Banks.running(60).pledgeOf(0, 7), 0);
        Checks.same("a lot", Banks.lot(50).pledgeOf(0, 7), 64);
        Checks.same("redeemed", Banks.redeemed().pledgeOf(0, 7), 0);
        Checks.same("sold", Banks.sold().pledgeOf(0, 7), 0);
        CoatPledges x = Banks.sold();
        x.pass(20);
        Checks.same("sold for long", x.pledgeOf(0, 7), 0);
        x.undo();
        x.undo();
        Checks.same("a lot again", x.pledgeOf(0, 7), 64);
        x.undo();
        Checks.same("running again", x.pledgeOf(0, 7), 0);
    }

    private static void allThatWasPaid() {
        Checks.promise(9);
        Checks.sentence("8 for all that was paid on it so far, without a sale");
        CoatPledges x = Banks.running(300);
        x.pledge(1, 999, 300);
        x.pass(2);
        x.pay(0, 20);
        Checks.same("a part", x.pledgeOf(0, 8), 20);
        x.pass(1);
        x.renew(0);
        Checks.same("and renewed", x.pledgeOf(0, 8), 26);
        x.redeem(0);
        Checks.same("and redeemed", x.pledgeOf(0, 8), 26 + 292);
        x.pay(1, 7);
        x.pass(6);
        Checks.same("a lot", x.pledgeOf(1, 8), 7);
        x.sell(1, 999);
        Checks.same("sold", x.pledgeOf(1, 8), 7);
    }
}
