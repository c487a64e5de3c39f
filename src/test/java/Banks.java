/** Banks that more than one test begins with. */
final class Banks {
    interface Change {
        Object make(CoatPledges x);
    }

    /** Changes of every kind, each of which can be carried out behind those ahead of it. */
    static final Change[] STORY = {x -> x.pledge(0, 100, 60), x -> x.pledge(1, 100, 60), x -> x.pledge(2, 100, 60),
        x -> x.pass(8), x -> x.rate(7), x -> x.fee(7), x -> x.redeem(2), x -> x.pay(1, 5), x -> x.renew(1),
        x -> x.pass(1), x -> x.sell(0, 200), x -> x.claim(0), x -> x.pledge(3, 100, 60), x -> run(x, "w1;r3"),
        x -> x.pass(20), x -> x.sell(1, 500), x -> run(x, "c1;w1")};

    /** A new bank behind the first changes of the story. */
    static CoatPledges told(int changes) {
        return goOn(new CoatPledges(), 0, changes);
    }

    static CoatPledges goOn(CoatPledges x, int from, int to) {
        for (int n = from; n < to; n++) {
            STORY[n].make(x);
        }
        return x;
    }

    static int run(CoatPledges x, String text) {
        Checks.type(x, text);
        return x.run();
    }

    /** Pledges of 6 on coats worth 10, the owners in turn. */
    static CoatPledges with(int pledges) {
        CoatPledges x = new CoatPledges();
        for (int n = 0; n < pledges; n++) {
            x.pledge(n % 6, 10, 6);
        }
        return x;
    }

    /** One pledge of the owner 0. */
    static CoatPledges running(int loan) {
        CoatPledges x = new CoatPledges();
        x.pledge(0, 999, loan);
        return x;
    }

    /** One lot of the owner 0; at 20 a loan up to 50 gets one coin each week. */
    static CoatPledges lot(int loan) {
        CoatPledges x = running(loan);
        x.pass(9);
        return x;
    }

    static CoatPledges redeemed() {
        CoatPledges x = running(50);
        x.redeem(0);
        return x;
    }

    static CoatPledges sold() {
        CoatPledges x = lot(50);
        x.sell(0, 9999);
        return x;
    }

    /** 16 pledges, for which all the cash was paid out. */
    static CoatPledges full() {
        CoatPledges x = new CoatPledges();
        for (int n = 0; n < 16; n++) {
            x.pledge(n % 6, 209, 125);
        }
        return x;
    }

    /** So much is left over for the owner 0, and there is one coin less in cash. */
    static CoatPledges poor() {
        CoatPledges x = new CoatPledges();
        x.pledge(0, 999, 599);
        x.pledge(1, 999, 599);
        x.pass(9);
        x.sell(0, 599 + 9 * 12 + 5 + 88);
        x.pledge(2, 999, 599);
        x.pledge(2, 999, 599);
        x.pledge(2, 999, 404 - 87);
        return x;
    }

    /** Something of everything, with more changes than can be undone, a snapshot, a line and a part of a text. */
    static CoatPledges worn() {
        CoatPledges x = new CoatPledges();
        x.pledge(0, 200, 120);
        x.pledge(1, 200, 110);
        x.pledge(2, 100, 60);
        x.pass(8);
        x.redeem(2);
        x.pledge(3, 300, 170);
        x.pass(1);
        x.sell(0, 400);
        x.save();
        x.rate(30);
        x.fee(7);
        x.pass(1);
        x.pay(3, 3);
        x.pledge(4, 50, 30);
        Checks.type(x, "q");
        Checks.outcome(x::run);
        Checks.type(x, "w1");
        x.line(3);
        Checks.outcome(() -> x.rate(30));
        return x;
    }

    static CoatPledges atRate(int rate) {
        CoatPledges x = new CoatPledges();
        if (rate != 20) {
            x.rate(rate);
        }
        return x;
    }

    /** The bank as so many weeks went by; 0 are none. */
    static CoatPledges behind(int weeks, CoatPledges x) {
        if (weeks > 0) {
            x.pass(weeks);
        }
        return x;
    }

    private Banks() {
    }
}
