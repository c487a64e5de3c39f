/** Promises 28 to 33. */
public final class AccountsTest {
    public static void main(String[] args) {
        accounts();
        meansAndShares();
        undoing();
        undoingEachKind();
        snapshots();
        laterSnapshots();
        ticketsMadeAgain();
        fullBank();
        Checks.end("AccountsTest");
    }

    private static void accounts() {
        Checks.promise(28);
        CoatPledges x = new CoatPledges();
        x.pledge(0, 200, 120);
        x.pledge(1, 200, 120);
        x.pledge(2, 200, 120);
        x.pledge(3, 200, 120);
        x.pass(4);
        x.redeem(3);
        x.pay(2, 30);
        x.renew(1);
        x.pass(5);
        x.sell(0, 200);
        x.claim(0);
        x.pass(1);
        x.rate(33);
        x.fee(7);
        x.pledge(4, 10, 6);
        Checks.type(x, "w1;");
        int reserve = 102 + 15 + 5;
        reserve -= reserve / 10;
        x.sell(2, reserve);
        int[] due = {10, 5, 2, 0, 1, 2, 486, 132 + 30 + 12, 200 + reserve, 48, 0, 122 - reserve, 33, 7, 3, 8};
        for (int what = 0; what < due.length; what++) {
            Checks.same("account " + what, x.account(what), due[what]);
        }
        x.pass(8);
        Checks.same("a lot", x.account(3), 1);
        Checks.same("running", x.account(2), 1);
        x.sell(1, 999);
        Checks.same("left over", x.account(10), 999 - 120 - 27 - 7);
        Checks.fails("what 16", Checks.ARGUMENT, () -> x.account(16));
        Checks.fails("what -1", Checks.ARGUMENT, () -> x.account(-1));
    }

    private static void meansAndShares() {
        CoatPledges x = new CoatPledges();
        Checks.promise(29);
        Checks.fails("none is running", Checks.ARITHMETIC, x::meanLoan);
        Checks.promise(30);
        Checks.fails("none was made", Checks.ARITHMETIC, x::redeemedShare);
        x.pledge(0, 100, 50);
        x.pledge(0, 100, 50);
        x.pledge(0, 100, 51);
        Checks.same("none redeemed", x.redeemedShare(), 0f);
        Checks.promise(29);
        Checks.same("mean of three", x.meanLoan(), 151.0 / 3.0);
        x.pass(1);
        x.pay(0, 21);
        Checks.same("loans as they are", x.meanLoan(), 131.0 / 3.0);
        x.redeem(0);
        Checks.same("of those that are running", x.meanLoan(), 50.5);
        Checks.promise(30);
        Checks.same("a third", x.redeemedShare(), 1f / 3f);
        x.pass(8);
        Checks.promise(29);
        Checks.fails("lots alone", Checks.ARITHMETIC, x::meanLoan);
        Checks.promise(30);
        Checks.same("still a third", x.redeemedShare(), 1f / 3f);
    }

    private static void undoing() {
        Checks.promise(31);
        CoatPledges x = new CoatPledges();
        Checks.fails("no change", Checks.STATE, x::undo);
        for (int n = 0; n < 10; n++) {
            x.pledge(0, 10, 6);
        }
        Checks.same("the latest 8", x.account(15), 8);
        for (int n = 7; n >= 0; n--) {
            Checks.same("undo", x.undo(), n);
        }
        Checks.same("two stay", x.account(1), 2);
        Checks.fails("no more", Checks.STATE, x::undo);
        x.pass(1);
        Checks.same("a change behind undo", x.undo(), 0);
        Checks.same("week", x.account(0), 0);
        x.append('w');
        x.line(0);
        x.pass(2);
        x.undo();
        Checks.same("the input stays", x.account(14), 1);
        Checks.same("the line stays", x.character(0), '#');
        Checks.fails("what throws is no change", Checks.ARGUMENT, () -> x.pass(0));
        Checks.fails("what is refused is no change", Checks.REFUSED, () -> x.rate(20));
        x.save();
        x.quote(0, 1);
        Checks.same("nor is what tells or saves", x.account(15), 0);
    }

    private static CoatPledges withOneOfEach() {
        CoatPledges x = new CoatPledges();
        x.pledge(0, 200, 120);
        x.pledge(1, 200, 120);
        x.pledge(2, 200, 120);
        x.pass(9);
        x.sell(0, 500);
        x.pledge(3, 200, 120);
        x.pass(1);
        return x;
    }

    private static void undoingEachKind() {
        Checks.promise(31);
        Banks.Change[] changes = {x -> x.pledge(0, 10, 6), x -> x.rate(7), x -> x.fee(7), x -> x.pass(20),
            x -> x.redeem(3), x -> x.pay(3, 10), x -> x.renew(3), x -> x.sell(1, 999), x -> x.claim(0),
            x -> Banks.run(x, "w7;s2=999;p5=100/60;c2;n3;y3=5;r3")};
        for (int n = 0; n < changes.length; n++) {
            CoatPledges x = withOneOfEach();
            String before = Checks.stateOf(x);
            changes[n].make(x);
            Checks.same("change " + n + " changes", Checks.stateOf(x).equals(before), false);
            x.undo();
            Checks.same("undone " + n, Checks.stateOf(x), before);
        }
        CoatPledges y = withOneOfEach();
        String before = Checks.stateOf(y);
        for (Banks.Change change : changes) {
            change.make(y);
            y.undo();
        }
        Checks.same("undone one after the other", Checks.stateOf(y), before);
    }

    private static void snapshots() {
        CoatPledges x = new CoatPledges();
        Checks.promise(33);
        Checks.fails("no snapshot", Checks.STATE, x::restore);
        x.pledge(0, 200, 120);
        x.pass(3);
        Checks.promise(32);
        Checks.same("week", x.save(), 3);
        Checks.same("changes stay", x.account(15), 2);
        String saved = Checks.stateOf(x);
        Checks.type(x, "w1");
        x.rate(50);
        x.fee(19);
        x.pledge(1, 100, 60);
        x.pay(0, 50);
        x.pass(20);
        x.sell(0, 900);
        x.claim(0);
        Checks.promise(33);
        Checks.same("week", x.restore(), 3);
        Checks.same("all as it was", Checks.stateOf(x), saved);
        Checks.fails("restore forgets all changes", Checks.STATE, x::undo);
        Checks.same("the input stays", x.account(14), 2);
        x.pass(5);
        Checks.same("the snapshot stays", x.restore(), 3);
        Checks.same("all as it was again", Checks.stateOf(x), saved);
    }

    private static void laterSnapshots() {
        Checks.promise(32);
        CoatPledges x = new CoatPledges();
        x.pledge(0, 200, 120);
        x.pass(3);
        x.save();
        String saved = Checks.stateOf(x);
        x.pass(1);
        Checks.same("in place of the earlier one", x.save(), 4);
        String later = Checks.stateOf(x);
        x.undo();
        Checks.same("undo leaves the snapshot", Checks.stateOf(x), saved);
        Checks.promise(33);
        Checks.same("the later week", x.restore(), 4);
        Checks.same("the later state", Checks.stateOf(x), later);
        x.pledge(2, 10, 6);
        Checks.same("one change", x.account(15), 1);
        x.undo();
        Checks.same("back to the snapshot", Checks.stateOf(x), later);
    }

    private static void ticketsMadeAgain() {
        Checks.promise(31);
        CoatPledges x = new CoatPledges();
        x.save();
        x.pledge(5, 500, 300);
        x.pass(1);
        x.pay(0, 3);
        x.pass(8);
        x.pass(3);
        x.sell(0, 9999);
        x.restore();
        Checks.same("nothing of it stays", Checks.stateOf(x), Checks.stateOf(new CoatPledges()));
        x.pledge(1, 100, 60);
        CoatPledges y = new CoatPledges();
        y.pledge(1, 100, 60);
        Checks.same("the ticket begins from anew", Checks.stateOf(x), Checks.stateOf(y));
        x.pass(9);
        x.restore();
        x.pledge(1, 100, 60);
        Checks.same("without the reserve of a lot", Checks.stateOf(x), Checks.stateOf(y));
        Checks.promise(33);
        x.pass(9);
        x.sell(0, 200);
        x.save();
        String saved = Checks.stateOf(x);
        x.undo();
        x.undo();
        x.undo();
        x.fee(11);
        x.pledge(2, 700, 400);
        x.pass(9);
        x.restore();
        Checks.same("the pledge of the snapshot", Checks.stateOf(x), saved);
        Checks.same("its loan", x.account(6), 60);
        CoatPledges z = new CoatPledges();
        z.pledge(0, 200, 120);
        z.pass(9);
        z.save();
        z.undo();
        z.undo();
        z.pledge(0, 999, 500);
        z.pass(10);
        z.restore();
        Checks.same("what was owed as it became a lot", z.sell(0, 200), 48);
    }

    private static void fullBank() {
        CoatPledges x = new CoatPledges();
        for (int n = 0; n < 16; n++) {
            x.pledge(n % 6, 200, 120 - n);
        }
        Checks.promise(29);
        Checks.same("mean of 16", x.meanLoan(), 112.5);
        Checks.promise(19);
        Checks.same("owed by owner 0", x.ownerOf(0, 1), 120 + 114 + 108);
        Checks.same("owed by owner 3", x.ownerOf(3, 1), 117 + 111 + 105);
        Checks.promise(16);
        Checks.same("in 20 weeks", x.willBeLots(20), 16);
        Checks.promise(17);
        Checks.same("in 20 weeks again", x.willBeLotsAgain(20), 16);
        Checks.promise(21);
        Checks.same("well", x.isWell(), true);
        Checks.promise(28);
        Checks.same("loans", x.account(6), 1800);
        x.pass(1);
        x.redeem(0);
        x.pay(1, 2);
        Checks.same("paid on the first", x.account(7), 125);
        Checks.promise(29);
        Checks.same("mean of 15 without the first", x.meanLoan(), 1680.0 / 15.0);
        Checks.promise(5);
        Checks.same("all but what is redeemed", x.pass(8), 15);
        Checks.promise(12);
        Checks.same("the last place", x.lotAt(14), 15);
        Checks.fails("no place 15", Checks.MISSING, () -> x.lotAt(15));
        Checks.promise(13);
        Checks.same("the first rank", x.ranked(0), 2);
        Checks.fails("no rank 15", Checks.MISSING, () -> x.ranked(15));
        Checks.promise(28);
        x.pass(2);
        int reserve = x.pledgeOf(1, 7);
        int lost = 119 + 3 * 9 - 2 + 5 - reserve;
        x.sell(1, reserve);
        Checks.same("losses", x.account(11), lost);
        x.sell(6, 500);
        Checks.same("left over for owner 0", x.account(10), 500 - 114 - 27 - 5);
        x.claim(0);
        Checks.same("claimed by owner 0", x.account(9), 354);
        Checks.same("prices", x.account(8), 500 + reserve);
        Checks.promise(20);
        Checks.same("two ways", x.cash(true), x.cash(false));
        Checks.promise(22);
        Checks.same("the longest ticket", Checks.lineOf(x, 15), "#15 200/105+27 l");
        Checks.promise(2);
        Checks.fails("a refusal in a full bank", Checks.REFUSED, () -> x.pledge(0, 10, 1));
        Checks.promise(6);
        Checks.fails("no ticket 16", Checks.MISSING, () -> x.redeem(16));
    }
}
