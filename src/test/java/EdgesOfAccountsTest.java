/** Promises 28 to 33 at their edges: the last that is still right and the first that is not, on both sides. */
public final class EdgesOfAccountsTest {
    public static void main(String[] args) {
        whats();
        accountsOfANewBank();
        accountsOfEachKind();
        accountsOfFullBanks();
        meansOfNone();
        meansOfSome();
        sharesOfNone();
        sharesOfSome();
        nothingToUndo();
        eightChanges();
        eightOfEachNumber();
        everyChangeIsOne();
        whatIsNoChange();
        textsAreOneChange();
        undoneInTurn();
        ticketsMadeAgain();
        weekOfTheSnapshot();
        noSnapshot();
        inPlaceOfAnEarlier();
        snapshotStays();
        restoreForgetsAll();
        whatIsNotSaved();
        Checks.end("EdgesOfAccountsTest");
    }

    private static void whats() {
        Checks.promise(28);
        Checks.sentence("if what is not from 0 to 15");
        Checks.range("what", Checks.ARGUMENT, 0, 15, n -> new CoatPledges().account(n));
    }

    private static void accountsAre(String behind, CoatPledges x, int... due) {
        for (int what = 0; what < due.length; what++) {
            Checks.same("account " + what + " behind " + behind, x.account(what), due[what]);
        }
    }

    private static void accountsOfANewBank() {
        Checks.promise(28);
        Checks.sentence("Returns an account");
        accountsAre("nothing", new CoatPledges(), 0, 0, 0, 0, 0, 0, 0, 0, 0, 0, 0, 0, 20, 5, 0, 0);
    }

    private static void accountsOfEachKind() {
        Checks.promise(28);
        Checks.sentence("Returns an account");
        CoatPledges x = new CoatPledges();
        x.pledge(0, 999, 300);
        accountsAre("a pledge", x, 0, 1, 1, 0, 0, 0, 300, 0, 0, 0, 0, 0, 20, 5, 0, 1);
        x.pledge(1, 999, 50);
        x.rate(60);
        x.fee(0);
        accountsAre("rate and fee", x, 0, 2, 2, 0, 0, 0, 350, 0, 0, 0, 0, 0, 60, 0, 0, 4);
        x.pass(1);
        x.pay(0, 7);
        accountsAre("a part", x, 1, 2, 2, 0, 0, 0, 350, 7, 0, 0, 0, 0, 60, 0, 0, 6);
        x.renew(1);
        accountsAre("renewing", x, 1, 2, 2, 0, 0, 0, 350, 8, 0, 0, 0, 0, 60, 0, 0, 7);
        x.pledge(2, 10, 6);
        x.redeem(2);
        accountsAre("redeeming", x, 1, 3, 2, 0, 1, 0, 356, 14, 0, 0, 0, 0, 60, 0, 0, 8);
        x.pass(8);
        accountsAre("a lot", x, 9, 3, 1, 1, 1, 0, 356, 14, 0, 0, 0, 0, 60, 0, 0, 8);
        x.sell(0, 400);
        accountsAre("a sale", x, 9, 3, 1, 0, 1, 1, 356, 14, 400, 0, 53, 0, 60, 0, 0, 8);
        x.claim(0);
        accountsAre("a claim", x, 9, 3, 1, 0, 1, 1, 356, 14, 400, 53, 0, 0, 60, 0, 0, 8);
        x.pass(2);
        x.sell(1, 54);
        x.append('w');
        accountsAre("a loss", x, 11, 3, 0, 0, 1, 2, 356, 14, 454, 53, 0, 5, 60, 0, 1, 8);
    }

    private static void accountsOfFullBanks() {
        Checks.promise(28);
        Checks.sentence("Returns an account");
        CoatPledges x = Banks.full();
        accountsAre("16 pledges", x, 0, 16, 16, 0, 0, 0, 2000, 0, 0, 0, 0, 0, 20, 5, 0, 8);
        x.pass(9);
        accountsAre("16 lots", x, 9, 16, 0, 16, 0, 0, 2000, 0, 0, 0, 0, 0, 20, 5, 0, 8);
        x.pass(1);
        for (int n = 0; n < 16; n++) {
            x.sell(n, n < 8 ? 9999 : 142);
        }
        int left = 8 * (9999 - 157);
        accountsAre("16 sales", x, 10, 16, 0, 0, 0, 16, 2000, 0, 8 * 9999 + 8 * 142, 0, left, 120, 20, 5, 0, 8);
        for (int owner = 0; owner < 6; owner++) {
            x.claim(owner);
        }
        accountsAre("6 claims", x, 10, 16, 0, 0, 0, 16, 2000, 0, 8 * 9999 + 8 * 142, left, 0, 120, 20, 5, 0, 8);
        CoatPledges y = Banks.full();
        for (int n = 0; n < 16; n++) {
            y.redeem(n);
        }
        accountsAre("16 redeemed", y, 0, 16, 0, 0, 16, 0, 2000, 2000, 0, 0, 0, 0, 20, 5, 0, 8);
        for (int n = 1; n <= 60; n++) {
            y.append('x');
            Checks.same("characters in the input", y.account(14), n);
        }
    }

    private static void meansOfNone() {
        Checks.promise(29);
        Checks.sentence("if none is running");
        CoatPledges[] banks = {new CoatPledges(), Banks.lot(50), Banks.redeemed(), Banks.sold()};
        for (CoatPledges x : banks) {
            Checks.fails("none", Checks.ARITHMETIC, x::meanLoan);
            x.pledge(0, 999, 3);
            Checks.same("one", x.meanLoan(), 3.0);
            x.undo();
            Checks.fails("none again", Checks.ARITHMETIC, x::meanLoan);
        }
    }

    private static void meansOfSome() {
        Checks.promise(29);
        Checks.sentence("Returns their sum divided by their number, both as doubles");
        CoatPledges x = new CoatPledges();
        int sum = 0;
        for (int n = 1; n <= 16; n++) {
            x.pledge(0, 999, 7 * n + n * n % 5);
            sum += 7 * n + n * n % 5;
            Checks.same("mean of " + n, x.meanLoan(), (double) sum / n);
        }
        x.pass(8);
        Checks.same("without the interest", x.meanLoan(), (double) sum / 16);
        x.pay(15, x.pledgeOf(15, 3) + 1);
        Checks.same("the loans as they are", x.meanLoan(), (double) (sum - 1) / 16);
        Checks.same("the greatest", Banks.running(599).meanLoan(), 599.0);
        CoatPledges y = new CoatPledges();
        y.pledge(0, 999, 1);
        y.pledge(0, 999, 1);
        y.pledge(0, 999, 2);
        Checks.same("no float", y.meanLoan(), 4.0 / 3.0);
    }

    private static void sharesOfNone() {
        Checks.promise(30);
        Checks.sentence("if no pledge was made");
        CoatPledges x = new CoatPledges();
        x.pass(20);
        Checks.fails("none", Checks.ARITHMETIC, x::redeemedShare);
        x.pledge(0, 10, 6);
        Checks.same("one, not redeemed", x.redeemedShare(), 0f);
        x.redeem(0);
        Checks.same("one, redeemed", x.redeemedShare(), 1f);
        x.undo();
        x.undo();
        Checks.fails("none again", Checks.ARITHMETIC, x::redeemedShare);
    }

    private static void sharesOfSome() {
        Checks.promise(30);
        Checks.sentence("Returns their number divided by that of all, both as floats");
        for (int made = 1; made <= 16; made++) {
            CoatPledges x = Banks.with(made);
            for (int redeemed = 1; redeemed <= made; redeemed++) {
                x.redeem(redeemed - 1);
                Checks.same(redeemed + " of " + made, x.redeemedShare(), (float) redeemed / (float) made);
            }
        }
        CoatPledges y = Banks.with(3);
        y.redeem(0);
        y.pass(9);
        y.sell(1, 20);
        Checks.same("lots and sales count among all", y.redeemedShare(), 1f / 3f);
    }

    private static void nothingToUndo() {
        Checks.promise(31);
        Checks.sentence("if no change can be undone");
        CoatPledges x = new CoatPledges();
        Checks.fails("new", Checks.STATE, x::undo);
        x.save();
        Checks.fails("saved", Checks.STATE, x::undo);
        x.pledge(0, 10, 6);
        Checks.same("one", x.undo(), 0);
        Checks.fails("undone", Checks.STATE, x::undo);
        Checks.same("changes", x.account(15), 0);
        x.pledge(0, 10, 6);
        Checks.same("another", x.account(15), 1);
        Checks.same("undone too", x.undo(), 0);
    }

    private static void eightChanges() {
        Checks.promise(31);
        Checks.sentence("The latest 8 can be undone");
        for (int changes = 1; changes <= 26; changes++) {
            CoatPledges x = new CoatPledges();
            for (int n = 0; n < changes; n++) {
                x.pass(1);
            }
            int most = Math.min(8, changes);
            Checks.same("of " + changes, x.account(15), most);
            for (int n = most - 1; n >= 0; n--) {
                Checks.same("of " + changes, x.undo(), n);
                Checks.same("week of " + changes, x.account(0), changes - most + n);
            }
            Checks.fails("a ninth", Checks.STATE, x::undo);
            Checks.same("week stays", x.account(0), changes - most);
        }
    }

    private static void eightOfEachNumber() {
        Checks.promise(31);
        Checks.sentence("Undoes the latest change");
        CoatPledges x = new CoatPledges();
        for (int n = 0; n < 8; n++) {
            x.pass(1);
        }
        for (int undone = 1; undone <= 8; undone++) {
            for (int n = 0; n < undone; n++) {
                Checks.same("undo " + n + " of " + undone, x.undo(), 7 - n);
            }
            for (int n = 0; n < undone; n++) {
                x.pass(1);
            }
            Checks.same("week behind " + undone, x.account(0), 8);
            Checks.same("changes behind " + undone, x.account(15), 8);
        }
    }

    private static void everyChangeIsOne() {
        Checks.promise(31);
        Checks.sentence("the successful calls of pledge, rate, fee, pass, redeem, pay, renew, sell, claim and run");
        for (int changes = 0; changes <= Banks.STORY.length; changes++) {
            Checks.same("changes", Banks.told(changes).account(15), Math.min(8, changes));
        }
    }

    private static void whatIsNoChange() {
        Checks.promise(31);
        Checks.sentence("The changes are the successful calls");
        CoatPledges x = Banks.worn();
        x.undo();
        x.undo();
        Checks.Call[] others = {() -> x.pledgeOf(0, 0), () -> x.lotAt(0), () -> x.ranked(0), () -> x.quote(3, 0),
            () -> x.quoteAgain(3, 0), () -> x.willBeLots(1), () -> x.willBeLotsAgain(1), () -> x.willReserve(1, 1),
            () -> x.ownerOf(0, 0), () -> x.cash(true), x::isWell, () -> x.line(0), () -> x.character(0),
            () -> x.append('x'), x::errorPosition, () -> x.refusal(false, false), () -> x.account(0), x::meanLoan,
            x::redeemedShare, x::save, x::run, () -> x.rate(30), () -> x.pass(0), () -> x.redeem(9)};
        for (int n = 0; n < others.length; n++) {
            Checks.outcome(others[n]);
            Checks.same("call " + n, x.account(15), 6);
        }
    }

    private static void textsAreOneChange() {
        Checks.promise(31);
        Checks.sentence("The changes are the successful calls of run");
        for (int orders = 1; orders <= 20; orders++) {
            CoatPledges x = Banks.behind(3, new CoatPledges());
            Checks.type(x, ";w1".repeat(orders).substring(1));
            x.run();
            Checks.same("changes", x.account(15), 2);
            Checks.same("undo", x.undo(), 1);
            Checks.same("week", x.account(0), 3);
            Checks.same("input", x.account(14), 0);
        }
    }

    private static void undoneInTurn() {
        Checks.promise(31);
        Checks.sentence("Undoes the latest change");
        for (int changes = 1; changes <= Banks.STORY.length; changes++) {
            int most = Math.min(8, changes);
            for (int undone = 1; undone <= most; undone++) {
                CoatPledges x = Banks.told(changes);
                for (int n = 1; n <= undone; n++) {
                    Checks.same("can still be undone", x.undo(), most - n);
                }
                String due = Checks.stateOf(Banks.told(changes - undone));
                Checks.same(undone + " undone of " + changes, Checks.stateOf(x), due);
                Banks.goOn(x, changes - undone, changes);
                Checks.same(undone + " made again", x.account(15), most);
            }
        }
    }

    private static void ticketsMadeAgain() {
        String due = Checks.stateOf(Banks.running(50));
        CoatPledges x = new CoatPledges();
        x.save();
        x.rate(60);
        x.fee(20);
        x.pledge(5, 500, 300);
        x.pass(1);
        x.pay(0, 30);
        x.pass(8);
        x.sell(0, 9999);
        for (int n = 0; n < 7; n++) {
            x.undo();
        }
        x.pledge(0, 999, 50);
        Checks.promise(31);
        Checks.sentence("Undoes the latest change");
        Checks.same("nothing of the pledge that was undone stays", Checks.stateOf(x), due);
        CoatPledges y = new CoatPledges();
        y.save();
        Banks.goOn(y, 0, Banks.STORY.length);
        y.pass(9);
        y.restore();
        y.pledge(0, 999, 50);
        Checks.promise(33);
        Checks.sentence("Makes everything that changes can change as it is in the snapshot");
        Checks.same("nor of those that are not in the snapshot", Checks.stateOf(y), due);
        y.restore();
        y.pledge(3, 500, 300);
        y.pass(1);
        y.pay(0, 30);
        y.pass(8);
        y.restore();
        y.pledge(0, 999, 50);
        Checks.same("nor of a lot", Checks.stateOf(y), due);
    }

    private static void weekOfTheSnapshot() {
        Checks.promise(32);
        Checks.sentence("Returns the week");
        for (int week = 0; week <= 20; week++) {
            CoatPledges x = Banks.behind(week, new CoatPledges());
            Checks.same("saved", x.save(), week);
            Checks.same("saved again", x.save(), week);
            x.pass(20);
            Checks.promise(33);
            Checks.same("restored", x.restore(), week);
            Checks.same("week", x.account(0), week);
            Checks.promise(32);
        }
    }

    private static void noSnapshot() {
        Checks.promise(33);
        Checks.sentence("if there is no snapshot");
        CoatPledges x = new CoatPledges();
        Checks.fails("new", Checks.STATE, x::restore);
        x.pass(1);
        Checks.fails("changed", Checks.STATE, x::restore);
        Checks.same("a change stays to be undone", x.undo(), 0);
        Checks.fails("undone", Checks.STATE, x::restore);
        x.save();
        Checks.same("of a new bank", x.restore(), 0);
        Checks.same("nothing was made", Checks.stateOf(x), Checks.stateOf(new CoatPledges()));
    }

    private static void inPlaceOfAnEarlier() {
        Checks.promise(32);
        Checks.sentence("in place of an earlier one");
        for (int first = 0; first <= 12; first += 3) {
            CoatPledges x = Banks.told(first);
            x.save();
            Banks.goOn(x, first, first + 4);
            x.save();
            Banks.goOn(x, first + 4, Banks.STORY.length);
            x.restore();
            Checks.same("the later one", Checks.stateOf(x), Checks.stateOf(Banks.told(first + 4)));
        }
        CoatPledges y = Banks.told(10);
        y.save();
        y.undo();
        y.undo();
        y.save();
        Banks.goOn(y, 8, 12);
        y.restore();
        Checks.same("with fewer changes", Checks.stateOf(y), Checks.stateOf(Banks.told(8)));
        CoatPledges z = Banks.told(10);
        z.save();
        Checks.same("to save forgets no change", z.account(15), 8);
        z.undo();
        Checks.same("undone", Checks.stateOf(z), Checks.stateOf(Banks.told(9)));
    }

    private static void snapshotStays() {
        Checks.promise(33);
        Checks.sentence("as it is in the snapshot, which stays");
        for (int saved = 0; saved <= Banks.STORY.length; saved++) {
            String due = Checks.stateOf(Banks.told(saved));
            CoatPledges x = Banks.told(saved);
            x.save();
            Banks.goOn(x, saved, Banks.STORY.length);
            x.restore();
            Checks.same("restored to " + saved, Checks.stateOf(x), due);
            Banks.goOn(x, saved, Math.min(saved + 5, Banks.STORY.length));
            x.pass(7);
            x.restore();
            Checks.same("restored again to " + saved, Checks.stateOf(x), due);
        }
        CoatPledges y = Banks.told(9);
        y.save();
        for (int n = 0; n < 8; n++) {
            y.undo();
        }
        y.restore();
        Checks.same("forward, behind undo", Checks.stateOf(y), Checks.stateOf(Banks.told(9)));
    }

    private static void restoreForgetsAll() {
        Checks.promise(33);
        Checks.sentence("The latest 8 can be undone; restore forgets all");
        for (int changes = 0; changes <= 10; changes++) {
            CoatPledges x = Banks.told(changes);
            x.save();
            x.restore();
            Checks.same("changes", x.account(15), 0);
            Checks.fails("undo", Checks.STATE, x::undo);
            for (int n = 1; n <= 9; n++) {
                x.pass(1);
                Checks.same("changes anew", x.account(15), Math.min(8, n));
            }
            for (int n = 7; n >= 0; n--) {
                Checks.same("undo anew", x.undo(), n);
            }
            Checks.fails("undo the ninth", Checks.STATE, x::undo);
        }
    }

    private static void whatIsNotSaved() {
        Checks.promise(33);
        Checks.sentence("The input, the line, the error position and the reason are neither undone nor saved");
        CoatPledges x = Banks.running(50);
        x.save();
        x.pass(1);
        Checks.type(x, "w1;x");
        Checks.outcome(x::run);
        Checks.type(x, "w20");
        x.line(0);
        Checks.outcome(() -> x.rate(20));
        for (int n = 0; n < 3; n++) {
            Checks.same("input", x.account(14), 3);
            Checks.same("error position", x.errorPosition(), 3);
            Checks.same("line", x.character(10), '1');
            Checks.same("reason", x.refusal(false, false), 10);
            if (n == 0) {
                x.undo();
            } else if (n == 1) {
                x.restore();
            }
        }
        Checks.same("the line is that of then", x.character(10), '1');
        Checks.same("the input runs", x.run(), 1);
        Checks.same("week", x.account(0), 20);
    }
}
