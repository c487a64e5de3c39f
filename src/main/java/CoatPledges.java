import java.util.NoSuchElementException;

/** A pawn bank of winter coats; ../shared/DOC.md says what each call does. */
public final class CoatPledges {
    private static final int MOST_PLEDGES = 16;
    private static final int OWNERS = 6;
    private static final int MOST_WORTH = 999;
    private static final int MOST_HUNDREDTHS = 60;
    private static final int MOST_RATE = 60;
    private static final int MOST_FEE = 20;
    private static final int MOST_WEEKS = 20;
    private static final int MOST_PRICE = 9999;
    private static final int TERM_WEEKS = 9;
    private static final int FIRST_CASH = 2000;
    private static final int FIRST_RATE = 20;
    private static final int FIRST_FEE = 5;
    private static final int MOST_SIGNS = 60;
    // The shortest order has two signs, and a semicolon stands between two: 20 orders have 59 signs.
    private static final int MOST_ORDERS = 20;
    private static final int MOST_UNDONE = 8;

    private static final int RUNNING = 0;
    private static final int LOT = 1;
    private static final int REDEEMED = 2;
    private static final int SOLD = 3;

    private static final char PLEDGE = 'p';
    private static final char PASS = 'w';
    private static final char REDEEM = 'r';
    private static final char PAY = 'y';
    private static final char RENEW = 'n';
    private static final char SELL = 's';
    private static final char CLAIM = 'c';
    // These two have no letter in a text, so Input knows no shape for them.
    private static final char RATE = '%';
    private static final char FEE = 'f';

    private static final int FINE = 0;
    private static final int NO_PLEDGE_LEFT = 1;
    private static final int LOAN_TOO_GREAT = 2;
    private static final int CASH_TOO_LOW = 3;
    private static final int NOT_RUNNING = 4;
    private static final int AMOUNT_TOO_GREAT = 5;
    private static final int NO_INTEREST = 6;
    private static final int NO_LOT = 7;
    private static final int BELOW_RESERVE = 8;
    private static final int NOTHING_LEFT = 9;
    private static final int SO_ALREADY = 10;
    private static final int ORDER_REFUSED = 11;
    // Verdicts below 0 are no reasons: the call throws another exception and no reason is kept.
    private static final int NO_OWNER = -1;
    private static final int BAD_NUMBER = -2;
    private static final int NO_TICKET = -3;

    private static final int NONE = -1;
    private static final int ANYONE = -1;

    private final Bank bank;
    private final Bank snapshot;
    // A text is tried out here first, so that nothing has to be taken back if it is refused.
    private final Bank trial;
    private boolean hasSnapshot;
    private final History history;
    private final Clerk clerk;
    private final Order spoken;
    private final Input input;
    private final Refusal latest;
    private final StringBuilder written;
    private int errorPlace;

    public CoatPledges() {
        bank = new Bank();
        snapshot = new Bank();
        trial = new Bank();
        hasSnapshot = false;
        history = new History();
        clerk = new Clerk();
        spoken = new Order();
        input = new Input();
        latest = new Refusal();
        written = new StringBuilder();
        errorPlace = NONE;
    }

    // Pledges

    public int pledge(int owner, int worth, int loan)
            throws IndexOutOfBoundsException, IllegalArgumentException, UnsupportedOperationException {
        return change(PLEDGE, owner, worth, loan);
    }

    public int rate(int rate) throws IllegalArgumentException, UnsupportedOperationException {
        return change(RATE, rate, 0, 0);
    }

    public int fee(int fee) throws IllegalArgumentException, UnsupportedOperationException {
        return change(FEE, fee, 0, 0);
    }

    public int pass(int weeks) throws IllegalArgumentException {
        return change(PASS, weeks, 0, 0);
    }

    public int redeem(int ticket) throws NoSuchElementException, UnsupportedOperationException {
        return change(REDEEM, ticket, 0, 0);
    }

    public int pay(int ticket, int amount)
            throws NoSuchElementException, IllegalArgumentException, UnsupportedOperationException {
        return change(PAY, ticket, amount, 0);
    }

    public int renew(int ticket) throws NoSuchElementException, UnsupportedOperationException {
        return change(RENEW, ticket, 0, 0);
    }

    public int pledgeOf(int ticket, int what) throws NoSuchElementException, IllegalArgumentException {
        demandTicket(ticket);
        demandRange(what, 0, 8);
        return bank.pledges[ticket].number(what);
    }

    // Lots

    public int sell(int ticket, int price)
            throws NoSuchElementException, IllegalArgumentException, UnsupportedOperationException {
        return change(SELL, ticket, price, 0);
    }

    public int claim(int owner) throws IndexOutOfBoundsException, UnsupportedOperationException {
        return change(CLAIM, owner, 0, 0);
    }

    public int lotAt(int place) throws NoSuchElementException {
        return demandFound(bank.lotInPlace(place, false));
    }

    public int ranked(int place) throws NoSuchElementException {
        return demandFound(bank.lotInPlace(place, true));
    }

    // Ahead

    public int quote(int ticket, int weeks)
            throws NoSuchElementException, IllegalArgumentException, IllegalStateException {
        demandTicket(ticket);
        demandRange(weeks, 0, MOST_WEEKS);
        demandState(bank.pledges[ticket].isRunningIn(bank.week + weeks));
        return bank.pledges[ticket].costBehind(weeks);
    }

    public int quoteAgain(int ticket, int weeks)
            throws NoSuchElementException, IllegalArgumentException, IllegalStateException {
        demandTicket(ticket);
        demandRange(weeks, 0, MOST_WEEKS);
        int cost = bank.pledges[ticket].costWeekByWeek(bank.week, weeks);
        demandState(cost != NONE);
        return cost;
    }

    public int willBeLots(int weeks) throws IllegalArgumentException {
        demandRange(weeks, 0, MOST_WEEKS);
        return bank.lotsByTerms(weeks);
    }

    public int willBeLotsAgain(int weeks) throws IllegalArgumentException {
        demandRange(weeks, 0, MOST_WEEKS);
        return bank.lotsWeekByWeek(weeks);
    }

    public int willReserve(int ticket, int weeks)
            throws NoSuchElementException, IllegalArgumentException, IllegalStateException {
        demandTicket(ticket);
        demandRange(weeks, 0, MOST_WEEKS);
        demandState(bank.pledges[ticket].state == LOT);
        return bank.pledges[ticket].reserveBehind(weeks);
    }

    // Owners and cash

    public int ownerOf(int owner, int what) throws IndexOutOfBoundsException, IllegalArgumentException {
        if (!isOwner(owner)) {
            throw new IndexOutOfBoundsException("there is no such owner");
        }
        demandRange(what, 0, 6);
        switch (what) {
            case 0: return bank.countOf(owner, RUNNING);
            case 1: return bank.owedBy(owner);
            case 2: return bank.countOf(owner, LOT);
            case 3: return bank.countOf(owner, REDEEMED);
            case 4: return bank.countOf(owner, SOLD);
            case 5: return bank.left[owner];
            default: return bank.claimed[owner];
        }
    }

    public int cash(boolean isAgain) {
        return isAgain ? bank.cashFromAccounts() : bank.coins;
    }

    public boolean isWell() {
        return bank.coins == bank.cashFromAccounts()
                && bank.isCostTheSame(2)
                && bank.lotsByTerms(MOST_WEEKS) == bank.lotsWeekByWeek(MOST_WEEKS);
    }

    // Lines, texts, accounts, undo and snapshot

    public int line(int ticket) throws NoSuchElementException {
        demandTicket(ticket);
        written.setLength(0);
        written.append('#');
        written.append(ticket);
        bank.pledges[ticket].writeTo(written);
        return written.length();
    }

    public char character(int index) throws IndexOutOfBoundsException {
        if (index < 0 || index >= written.length()) {
            throw new IndexOutOfBoundsException("the line has no such index");
        }
        return written.charAt(index);
    }

    public int append(char c) throws IllegalStateException {
        demandState(input.take(c));
        return input.length;
    }

    public int run() throws IllegalArgumentException, UnsupportedOperationException {
        errorPlace = input.readOrders();
        input.empty();
        if (errorPlace != NONE) {
            throw new IllegalArgumentException("the text has an error");
        }
        int refused = tryOrders();
        if (refused != NONE) {
            throw new UnsupportedOperationException("an order is refused");
        }
        history.keep(bank);
        bank.copyFrom(trial);
        return input.orderCount;
    }

    public int errorPosition() {
        return errorPlace;
    }

    public int refusal(boolean isCause, boolean isDetail) throws NoSuchElementException {
        if (latest.reason == FINE || (isCause && latest.reason != ORDER_REFUSED)) {
            throw new NoSuchElementException("there is no such reason");
        }
        if (isCause) {
            return isDetail ? latest.causeDetail : latest.cause;
        }
        return isDetail ? latest.detail : latest.reason;
    }

    public int account(int what) throws IllegalArgumentException {
        demandRange(what, 0, 15);
        switch (what) {
            case 0: return bank.week;
            case 1: return bank.made;
            case 2: return bank.countOf(ANYONE, RUNNING);
            case 3: return bank.countOf(ANYONE, LOT);
            case 4: return bank.countOf(ANYONE, REDEEMED);
            case 5: return bank.countOf(ANYONE, SOLD);
            case 6: return bank.sumOfLent();
            case 7: return bank.sumOfPaid();
            case 8: return bank.sumOfPrices();
            case 9: return bank.sumOfClaimed();
            case 10: return bank.sumOfLeft();
            case 11: return bank.sumOfLosses();
            case 12: return bank.laterRate;
            case 13: return bank.laterFee;
            case 14: return input.length;
            default: return history.count;
        }
    }

    public double meanLoan() throws ArithmeticException {
        int number = bank.countOf(ANYONE, RUNNING);
        if (number == 0) {
            throw new ArithmeticException("no pledge is running");
        }
        return (double) bank.sumOfRunningLoans() / (double) number;
    }

    public float redeemedShare() throws ArithmeticException {
        if (bank.made == 0) {
            throw new ArithmeticException("no pledge was made");
        }
        return (float) bank.countOf(ANYONE, REDEEMED) / (float) bank.made;
    }

    public int undo() throws IllegalStateException {
        demandState(history.count > 0);
        history.takeBack(bank);
        return history.count;
    }

    public int save() {
        snapshot.copyFrom(bank);
        hasSnapshot = true;
        return bank.week;
    }

    public int restore() throws IllegalStateException {
        demandState(hasSnapshot);
        bank.copyFrom(snapshot);
        history.forget();
        return bank.week;
    }

    private int change(char kind, int first, int second, int third) {
        spoken.begin(kind);
        spoken.add(first);
        spoken.add(second);
        spoken.add(third);
        demandFine(clerk.examine(bank, spoken));
        history.keep(bank);
        return bank.carryOut(spoken);
    }

    private void demandFine(int verdict) {
        if (verdict == NO_OWNER) {
            throw new IndexOutOfBoundsException("there is no such owner");
        }
        if (verdict == NO_TICKET) {
            throw new NoSuchElementException("there is no such ticket");
        }
        if (verdict == BAD_NUMBER) {
            throw new IllegalArgumentException("a number is out of range");
        }
        if (verdict != FINE) {
            latest.keep(verdict, clerk.detail);
            throw new UnsupportedOperationException("this is refused");
        }
    }

    private int tryOrders() {
        trial.copyFrom(bank);
        for (int n = 0; n < input.orderCount; n++) {
            int verdict = clerk.examine(trial, input.orders[n]);
            if (verdict != FINE) {
                latest.keep(ORDER_REFUSED, n);
                latest.keepCause(verdict > FINE ? verdict : 0, verdict > FINE ? clerk.detail : 0);
                return n;
            }
            trial.carryOut(input.orders[n]);
        }
        return NONE;
    }

    private void demandTicket(int ticket) {
        if (!bank.hasTicket(ticket)) {
            throw new NoSuchElementException("there is no such ticket");
        }
    }

    private static void demandRange(int number, int least, int most) {
        if (number < least || number > most) {
            throw new IllegalArgumentException("a number is out of range");
        }
    }

    private static void demandState(boolean isSo) {
        if (!isSo) {
            throw new IllegalStateException("this cannot be done now");
        }
    }

    private static int demandFound(int ticket) {
        if (ticket == NONE) {
            throw new NoSuchElementException("there is no such place");
        }
        return ticket;
    }

    private static boolean isOwner(int owner) {
        return owner >= 0 && owner < OWNERS;
    }

    /** One pledge, as it is. */
    private static final class Pledge {
        int owner;
        int worth;
        int lent;
        int loan;
        int interest;
        int state;
        int term;
        int rate;
        int reserve;
        int paid;
        // What was owed and the fee as it became a lot: the reserve falls, but the sale is measured by this.
        int due;
        int price;

        void begin(Order order, int rateNow, int week) {
            owner = order.first;
            worth = order.second;
            lent = order.third;
            loan = order.third;
            interest = 0;
            state = RUNNING;
            term = week;
            rate = rateNow;
            reserve = 0;
            paid = 0;
            due = 0;
            price = 0;
        }

        void copyFrom(Pledge other) {
            owner = other.owner;
            worth = other.worth;
            lent = other.lent;
            loan = other.loan;
            interest = other.interest;
            state = other.state;
            term = other.term;
            rate = other.rate;
            reserve = other.reserve;
            paid = other.paid;
            due = other.due;
            price = other.price;
        }

        int number(int what) {
            switch (what) {
                case 0: return owner;
                case 1: return worth;
                case 2: return loan;
                case 3: return interest;
                case 4: return state;
                case 5: return term;
                case 6: return rate;
                case 7: return reserve;
                default: return paid;
            }
        }

        int owed() {
            return loan + interest;
        }

        int weeklyInterest() {
            return (loan * rate + 999) / 1000;
        }

        boolean isRunningIn(int week) {
            return state == RUNNING && week < term + TERM_WEEKS;
        }

        int costBehind(int weeks) {
            return owed() + weeklyInterest() * weeks;
        }

        int costWeekByWeek(int week, int weeks) {
            if (state != RUNNING) {
                return NONE;
            }
            int cost = owed();
            for (int w = 1; w <= weeks; w++) {
                cost += weeklyInterest();
                if (week + w - term >= TERM_WEEKS) {
                    return NONE;
                }
            }
            return cost;
        }

        int reserveBehind(int weeks) {
            int falling = reserve;
            for (int w = 0; w < weeks; w++) {
                falling -= falling / 10;
            }
            return falling;
        }

        boolean becomesLotAtEndOf(int week, int fee) {
            if (state == LOT) {
                reserve = reserveBehind(1);
                return false;
            }
            if (state != RUNNING) {
                return false;
            }
            interest += weeklyInterest();
            if (isRunningIn(week)) {
                return false;
            }
            state = LOT;
            due = owed() + fee;
            reserve = due;
            return true;
        }

        int payBack(int amount) {
            int forInterest = amount < interest ? amount : interest;
            interest -= forInterest;
            loan -= amount - forInterest;
            paid += amount;
            return owed();
        }

        int sellFor(int amount) {
            state = SOLD;
            reserve = 0;
            price = amount;
            return amount > due ? amount - due : 0;
        }

        int loss() {
            return state == SOLD && price < due ? due - price : 0;
        }

        void writeTo(StringBuilder out) {
            out.append(' ');
            out.append(worth);
            out.append('/');
            out.append(loan);
            out.append('+');
            out.append(interest);
            out.append(' ');
            out.append(letter());
        }

        char letter() {
            switch (state) {
                case RUNNING: return 'p';
                case LOT: return 'l';
                case REDEEMED: return 'r';
                default: return 's';
            }
        }
    }

    /** All that changes can change, so that undo and the snapshot are copies of it. */
    private static final class Bank {
        final Pledge[] pledges;
        final int[] left;
        final int[] claimed;
        int made;
        int week;
        int laterRate;
        int laterFee;
        int coins;

        Bank() {
            pledges = new Pledge[MOST_PLEDGES];
            for (int t = 0; t < MOST_PLEDGES; t++) {
                pledges[t] = new Pledge();
            }
            left = new int[OWNERS];
            claimed = new int[OWNERS];
            made = 0;
            week = 0;
            laterRate = FIRST_RATE;
            laterFee = FIRST_FEE;
            coins = FIRST_CASH;
        }

        // Rows behind the tickets made are never looked at, so they need no copy.
        void copyFrom(Bank other) {
            for (int t = 0; t < other.made; t++) {
                pledges[t].copyFrom(other.pledges[t]);
            }
            for (int o = 0; o < OWNERS; o++) {
                left[o] = other.left[o];
                claimed[o] = other.claimed[o];
            }
            made = other.made;
            week = other.week;
            laterRate = other.laterRate;
            laterFee = other.laterFee;
            coins = other.coins;
        }

        boolean hasTicket(int ticket) {
            return ticket >= 0 && ticket < made;
        }

        /** Only for an order that the clerk found fine on this bank. */
        int carryOut(Order order) {
            switch (order.kind) {
                case PLEDGE: return lend(order);
                case RATE: return changeRate(order.first);
                case FEE: return changeFee(order.first);
                case PASS: return endWeeks(order.first);
                case REDEEM: return giveBack(order.first);
                case PAY: return takePart(order.first, order.second);
                case RENEW: return beginAnew(order.first);
                case SELL: return sellLot(order.first, order.second);
                default: return payOut(order.first);
            }
        }

        int lend(Order order) {
            int ticket = made;
            pledges[ticket].begin(order, laterRate, week);
            coins -= order.third;
            made++;
            return ticket;
        }

        int changeRate(int rate) {
            int before = laterRate;
            laterRate = rate;
            return before;
        }

        int changeFee(int fee) {
            int before = laterFee;
            laterFee = fee;
            return before;
        }

        int endWeeks(int weeks) {
            int newLots = 0;
            for (int w = 0; w < weeks; w++) {
                newLots += endWeek();
            }
            return newLots;
        }

        int endWeek() {
            int newLots = 0;
            week++;
            for (int t = 0; t < made; t++) {
                if (pledges[t].becomesLotAtEndOf(week, laterFee)) {
                    newLots++;
                }
            }
            return newLots;
        }

        int giveBack(int ticket) {
            int amount = pledges[ticket].owed();
            pledges[ticket].payBack(amount);
            pledges[ticket].state = REDEEMED;
            coins += amount;
            return amount;
        }

        int takePart(int ticket, int amount) {
            coins += amount;
            return pledges[ticket].payBack(amount);
        }

        int beginAnew(int ticket) {
            int amount = pledges[ticket].interest;
            takePart(ticket, amount);
            pledges[ticket].term = week;
            return amount;
        }

        int sellLot(int ticket, int price) {
            int leftOver = pledges[ticket].sellFor(price);
            left[pledges[ticket].owner] += leftOver;
            coins += price;
            return leftOver;
        }

        int payOut(int owner) {
            int amount = left[owner];
            left[owner] = 0;
            claimed[owner] += amount;
            coins -= amount;
            return amount;
        }

        int lotInPlace(int place, boolean isByReserve) {
            for (int t = 0; t < made; t++) {
                if (pledges[t].state == LOT && lotsAheadOf(t, isByReserve) == place) {
                    return t;
                }
            }
            return NONE;
        }

        int lotsAheadOf(int ticket, boolean isByReserve) {
            int ahead = 0;
            for (int t = 0; t < made; t++) {
                if (pledges[t].state == LOT && isAhead(t, ticket, isByReserve)) {
                    ahead++;
                }
            }
            return ahead;
        }

        // Each term is as long as another, so the lots became lots in the order in which their terms began.
        boolean isAhead(int ticket, int other, boolean isByReserve) {
            int gap = isByReserve
                    ? pledges[ticket].reserve - pledges[other].reserve
                    : pledges[other].term - pledges[ticket].term;
            return gap > 0 || (gap == 0 && ticket < other);
        }

        int lotsByTerms(int weeks) {
            int lots = 0;
            for (int t = 0; t < made; t++) {
                if (pledges[t].state == RUNNING && !pledges[t].isRunningIn(week + weeks)) {
                    lots++;
                }
            }
            return lots;
        }

        int lotsWeekByWeek(int weeks) {
            int lots = 0;
            for (int w = 1; w <= weeks; w++) {
                for (int t = 0; t < made; t++) {
                    if (pledges[t].state == RUNNING && week + w - pledges[t].term == TERM_WEEKS) {
                        lots++;
                    }
                }
            }
            return lots;
        }

        boolean isCostTheSame(int weeks) {
            for (int t = 0; t < made; t++) {
                if (pledges[t].isRunningIn(week + weeks)
                        && pledges[t].costBehind(weeks) != pledges[t].costWeekByWeek(week, weeks)) {
                    return false;
                }
            }
            return true;
        }

        int cashFromAccounts() {
            return FIRST_CASH - sumOfLent() + sumOfPaid() + sumOfPrices() - sumOfClaimed();
        }

        int countOf(int owner, int state) {
            int count = 0;
            for (int t = 0; t < made; t++) {
                if (pledges[t].state == state && (owner == ANYONE || pledges[t].owner == owner)) {
                    count++;
                }
            }
            return count;
        }

        int owedBy(int owner) {
            int sum = 0;
            for (int t = 0; t < made; t++) {
                if (pledges[t].state == RUNNING && pledges[t].owner == owner) {
                    sum += pledges[t].owed();
                }
            }
            return sum;
        }

        int sumOfRunningLoans() {
            int sum = 0;
            for (int t = 0; t < made; t++) {
                if (pledges[t].state == RUNNING) {
                    sum += pledges[t].loan;
                }
            }
            return sum;
        }

        int sumOfLent() {
            int sum = 0;
            for (int t = 0; t < made; t++) {
                sum += pledges[t].lent;
            }
            return sum;
        }

        int sumOfPaid() {
            int sum = 0;
            for (int t = 0; t < made; t++) {
                sum += pledges[t].paid;
            }
            return sum;
        }

        int sumOfPrices() {
            int sum = 0;
            for (int t = 0; t < made; t++) {
                sum += pledges[t].price;
            }
            return sum;
        }

        int sumOfLosses() {
            int sum = 0;
            for (int t = 0; t < made; t++) {
                sum += pledges[t].loss();
            }
            return sum;
        }

        int sumOfClaimed() {
            int sum = 0;
            for (int o = 0; o < OWNERS; o++) {
                sum += claimed[o];
            }
            return sum;
        }

        int sumOfLeft() {
            int sum = 0;
            for (int o = 0; o < OWNERS; o++) {
                sum += left[o];
            }
            return sum;
        }
    }

    /** One change that is asked for, by a call or in a text. */
    private static final class Order {
        char kind;
        int first;
        int second;
        int third;
        int numbers;

        void begin(char newKind) {
            kind = newKind;
            first = 0;
            second = 0;
            third = 0;
            numbers = 0;
        }

        void add(int number) {
            switch (numbers) {
                case 0: first = number; break;
                case 1: second = number; break;
                default: third = number; break;
            }
            numbers++;
        }
    }

    /** Tells whether an order can be carried out, without doing so: both calls and texts ask first. */
    private static final class Clerk {
        int detail;

        int examine(Bank bank, Order order) {
            detail = 0;
            switch (order.kind) {
                case PLEDGE: return examinePledge(bank, order);
                case RATE: return examineSetting(order.first, 1, MOST_RATE, bank.laterRate);
                case FEE: return examineSetting(order.first, 0, MOST_FEE, bank.laterFee);
                case PASS: return order.first < 1 || order.first > MOST_WEEKS ? BAD_NUMBER : FINE;
                case CLAIM: return examineClaim(bank, order.first);
                default: return examineTicket(bank, order);
            }
        }

        int examinePledge(Bank bank, Order order) {
            if (!isOwner(order.first)) {
                return NO_OWNER;
            }
            if (order.second < 1 || order.second > MOST_WORTH || order.third < 1) {
                return BAD_NUMBER;
            }
            int mostLoan = order.second * MOST_HUNDREDTHS / 100;
            if (order.third > mostLoan) {
                return refuse(LOAN_TOO_GREAT, mostLoan);
            }
            if (bank.made >= MOST_PLEDGES) {
                return refuse(NO_PLEDGE_LEFT, MOST_PLEDGES);
            }
            return order.third > bank.coins ? refuse(CASH_TOO_LOW, bank.coins) : FINE;
        }

        int examineSetting(int number, int least, int most, int now) {
            if (number < least || number > most) {
                return BAD_NUMBER;
            }
            return number == now ? refuse(SO_ALREADY, now) : FINE;
        }

        int examineClaim(Bank bank, int owner) {
            if (!isOwner(owner)) {
                return NO_OWNER;
            }
            if (bank.left[owner] == 0) {
                return refuse(NOTHING_LEFT, bank.countOf(owner, SOLD));
            }
            return bank.left[owner] > bank.coins ? refuse(CASH_TOO_LOW, bank.coins) : FINE;
        }

        int examineTicket(Bank bank, Order order) {
            if (!bank.hasTicket(order.first)) {
                return NO_TICKET;
            }
            Pledge pledge = bank.pledges[order.first];
            if (order.kind == SELL) {
                return examineSale(pledge, order.second);
            }
            if (order.kind == PAY && order.second < 1) {
                return BAD_NUMBER;
            }
            if (pledge.state != RUNNING) {
                return refuse(NOT_RUNNING, pledge.state);
            }
            if (order.kind == PAY && order.second >= pledge.owed()) {
                return refuse(AMOUNT_TOO_GREAT, pledge.owed());
            }
            if (order.kind == RENEW && pledge.interest == 0) {
                return refuse(NO_INTEREST, pledge.loan);
            }
            return FINE;
        }

        int examineSale(Pledge pledge, int price) {
            if (price < 1 || price > MOST_PRICE) {
                return BAD_NUMBER;
            }
            if (pledge.state != LOT) {
                return refuse(NO_LOT, pledge.state);
            }
            return price < pledge.reserve ? refuse(BELOW_RESERVE, pledge.reserve) : FINE;
        }

        int refuse(int reason, int newDetail) {
            detail = newDetail;
            return reason;
        }
    }

    /** The banks as they were ahead of the latest changes; the rows go round, so the oldest is written over. */
    private static final class History {
        final Bank[] rows;
        int next;
        int count;

        History() {
            rows = new Bank[MOST_UNDONE];
            for (int n = 0; n < MOST_UNDONE; n++) {
                rows[n] = new Bank();
            }
            next = 0;
            count = 0;
        }

        void keep(Bank bank) {
            rows[next].copyFrom(bank);
            next = next + 1 < MOST_UNDONE ? next + 1 : 0;
            if (count < MOST_UNDONE) {
                count++;
            }
        }

        void takeBack(Bank bank) {
            next = next > 0 ? next - 1 : MOST_UNDONE - 1;
            bank.copyFrom(rows[next]);
            count--;
        }

        void forget() {
            count = 0;
        }
    }

    /** The input, and the orders that its text consists of. */
    private static final class Input {
        final char[] signs;
        final Order[] orders;
        int length;
        int orderCount;
        int place;

        Input() {
            signs = new char[MOST_SIGNS];
            orders = new Order[MOST_ORDERS];
            for (int n = 0; n < MOST_ORDERS; n++) {
                orders[n] = new Order();
            }
            length = 0;
            orderCount = 0;
            place = 0;
        }

        boolean take(char c) {
            if (length >= MOST_SIGNS) {
                return false;
            }
            signs[length] = c;
            length++;
            return true;
        }

        void empty() {
            length = 0;
        }

        /** Answers the error position of the text, or NONE if it has no error. */
        int readOrders() {
            orderCount = 0;
            place = 0;
            for (int n = 0; n < MOST_ORDERS; n++) {
                if (!readOrder(orders[n])) {
                    return place;
                }
                orderCount++;
                if (place == length) {
                    return NONE;
                }
                if (!readSign(';')) {
                    return place;
                }
            }
            return place;
        }

        boolean readOrder(Order order) {
            if (place >= length) {
                return false;
            }
            char letter = signs[place];
            String shape = shapeOf(letter);
            if (shape.isEmpty()) {
                return false;
            }
            place++;
            order.begin(letter);
            for (int n = 0; n < shape.length(); n++) {
                if (!readPart(order, shape.charAt(n))) {
                    return false;
                }
            }
            return true;
        }

        // In a shape a digit stands for a number of at most so many digits, and another sign for itself.
        static String shapeOf(char letter) {
            switch (letter) {
                case PLEDGE: return "1=3/3";
                case PASS: return "2";
                case REDEEM: return "2";
                case PAY: return "2=3";
                case RENEW: return "2";
                case SELL: return "2=4";
                case CLAIM: return "1";
                default: return "";
            }
        }

        boolean readPart(Order order, char part) {
            if (!isDigit(part)) {
                return readSign(part);
            }
            int number = readNumber(part - '0');
            if (number == NONE) {
                return false;
            }
            order.add(number);
            return true;
        }

        int readNumber(int mostDigits) {
            int number = NONE;
            for (int n = 0; n < mostDigits && place < length && isDigit(signs[place]); n++) {
                number = (n == 0 ? 0 : number * 10) + (signs[place] - '0');
                place++;
            }
            return number;
        }

        boolean readSign(char sign) {
            if (place >= length || signs[place] != sign) {
                return false;
            }
            place++;
            return true;
        }

        static boolean isDigit(char sign) {
            return sign >= '0' && sign <= '9';
        }
    }

    /** The latest reason; the cause counts only where the reason is that an order is refused. */
    private static final class Refusal {
        int reason;
        int detail;
        int cause;
        int causeDetail;

        void keep(int newReason, int newDetail) {
            reason = newReason;
            detail = newDetail;
        }

        void keepCause(int newCause, int newDetail) {
            cause = newCause;
            causeDetail = newDetail;
        }
    }
}
