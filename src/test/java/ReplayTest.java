import java.util.Random;

/**
 * Long runs of calls against ReplayModel; the seeds are fixed, so each run of this test makes the same calls. No
 * object is used for more than the 512 calls for which the document speaks.
 */
public final class ReplayTest {
    private static final int RUNS = 2500;
    private static final int MOST_CALLS = 512;
    // A text is at most 60 calls of append and 6 more; the last answers, of a full bank, are some 270.
    private static final int CALLS_OF_A_TEXT = 66;
    private static final int CALLS_OF_THE_ACCOUNTS = 19;
    private static final int CALLS_OF_ALL = 290;
    private static final String[] CALLS = {"pledge", "pledge", "pledge", "pledge", "rate", "fee", "pass", "pass", "pass",
        "redeem", "pay", "pay", "renew", "renew", "pledgeOf", "pledgeOf", "sell", "sell", "sell", "claim", "claim",
        "lotAt", "ranked", "quote", "quoteAgain", "willBeLots", "willBeLotsAgain", "willReserve", "ownerOf", "ownerOf",
        "cash", "isWell", "line", "character", "text", "text", "append", "run", "errorPosition", "refusal", "refusal",
        "refusal", "account", "account", "meanLoan", "redeemedShare", "undo", "save", "restore"};
    private static final int[] ODD = {-1, 0, 1, 6, 7, 9, 15, 16, 20, 21, 60, 61, 999, 1000, 9999, 10000,
        Integer.MAX_VALUE, Integer.MIN_VALUE};

    private final Random random;
    private final CoatPledges x = new CoatPledges();
    private final ReplayModel model = new ReplayModel();
    private final String name;
    private int calls = 0;

    private ReplayTest(int seed) {
        random = new Random(seed);
        name = "run " + seed;
    }

    public static void main(String[] args) {
        for (int seed = 0; seed < RUNS; seed++) {
            new ReplayTest(seed).go();
        }
        Checks.end("ReplayTest");
    }

    private void go() {
        int most = random.nextInt(2) == 0 ? MOST_CALLS - CALLS_OF_ALL : MOST_CALLS - CALLS_OF_THE_ACCOUNTS;
        while (calls < most - CALLS_OF_A_TEXT - 4) {
            String call = CALLS[random.nextInt(CALLS.length)];
            if (call.equals("text")) {
                enterText();
            } else {
                answer(call, argument(call, 0), argument(call, 1), argument(call, 2));
            }
        }
        answerAccounts();
        if (calls + CALLS_OF_ALL - CALLS_OF_THE_ACCOUNTS <= MOST_CALLS) {
            answerAll();
        }
        Checks.same(name + ": calls beyond the 512th", calls > MOST_CALLS, false);
    }

    private void answerAccounts() {
        for (int what = 0; what <= 15; what++) {
            answer("account", what, 0, 0);
        }
        answer("cash", 0, 0, 0);
        answer("cash", 1, 0, 0);
        answer("isWell", 0, 0, 0);
    }

    private void answerAll() {
        int pledges = x.account(1);
        int lots = x.account(3);
        calls += 2;
        for (int ticket = 0; ticket < pledges; ticket++) {
            for (int what = 0; what <= 8; what++) {
                answer("pledgeOf", ticket, what, 0);
            }
        }
        for (int owner = 0; owner < 6; owner++) {
            for (int what = 0; what <= 6; what++) {
                answer("ownerOf", owner, what, 0);
            }
        }
        for (int place = 0; place < lots; place++) {
            answer("lotAt", place, 0, 0);
            answer("ranked", place, 0, 0);
        }
        answer("restore", 0, 0, 0);
        answerAccounts();
    }

    private void enterText() {
        String text = text();
        for (char c : text.toCharArray()) {
            answer("append", c, 0, 0);
        }
        answer("run", 0, 0, 0);
        answer("errorPosition", 0, 0, 0);
        for (int n = 0; n < 4; n++) {
            answer("refusal", n / 2, n % 2, 0);
        }
    }

    private void answer(String call, int a, int b, int c) {
        Object due = Checks.outcome(() -> model.due(call, a, b, c));
        calls++;
        Object got = Checks.outcome(() -> made(call, a, b, c));
        Checks.same(name + ": " + call + "(" + a + ", " + b + ", " + c + ")", got, due);
    }

    private Object made(String call, int a, int b, int c) {
        switch (call) {
            case "pledge": return x.pledge(a, b, c);
            case "rate": return x.rate(a);
            case "fee": return x.fee(a);
            case "pass": return x.pass(a);
            case "redeem": return x.redeem(a);
            case "pay": return x.pay(a, b);
            case "renew": return x.renew(a);
            case "pledgeOf": return x.pledgeOf(a, b);
            case "sell": return x.sell(a, b);
            case "claim": return x.claim(a);
            case "lotAt": return x.lotAt(a);
            case "ranked": return x.ranked(a);
            case "quote": return x.quote(a, b);
            case "quoteAgain": return x.quoteAgain(a, b);
            case "willBeLots": return x.willBeLots(a);
            case "willBeLotsAgain": return x.willBeLotsAgain(a);
            case "willReserve": return x.willReserve(a, b);
            case "ownerOf": return x.ownerOf(a, b);
            case "cash": return x.cash(a == 1);
            case "isWell": return x.isWell();
            case "line": return x.line(a);
            case "character": return x.character(a);
            case "append": return x.append((char) a);
            case "run": return x.run();
            case "errorPosition": return x.errorPosition();
            case "refusal": return x.refusal(a == 1, b == 1);
            case "account": return x.account(a);
            case "meanLoan": return x.meanLoan();
            case "redeemedShare": return x.redeemedShare();
            case "undo": return x.undo();
            case "save": return x.save();
            case "restore": return x.restore();
            default: throw new AssertionError(call);
        }
    }

    private int argument(String call, int place) {
        if (call.equals("cash") || call.equals("refusal")) {
            return random.nextInt(2);
        }
        if (call.equals("append")) {
            return "pwrynsc0123456789=/;\u0000\uffff".charAt(random.nextInt(22));
        }
        if (random.nextInt(25) == 0) {
            return ODD[random.nextInt(ODD.length)];
        }
        if (place == 0) {
            return first(call);
        }
        if (place == 2) {
            return 1 + random.nextInt(200);
        }
        switch (call) {
            case "pledge": return 1 + random.nextInt(999);
            case "pay": return 1 + random.nextInt(120);
            case "sell": return random.nextInt(3) == 0 ? 1 + random.nextInt(9999) : 1 + random.nextInt(400);
            default: return random.nextInt(9);
        }
    }

    private int first(String call) {
        switch (call) {
            case "pledge":
            case "claim":
            case "ownerOf": return random.nextInt(6);
            case "rate": return 1 + random.nextInt(60);
            case "fee": return random.nextInt(21);
            case "pass": return random.nextInt(8) == 0 ? 1 + random.nextInt(20) : 1 + random.nextInt(3);
            case "willBeLots":
            case "willBeLotsAgain": return random.nextInt(21);
            case "account": return random.nextInt(16);
            case "lotAt":
            case "ranked": return random.nextInt(5);
            case "character": return random.nextInt(18);
            default: return aTicket();
        }
    }

    private int aTicket() {
        calls++;
        int made = x.account(1);
        return made == 0 ? 0 : random.nextInt(made);
    }

    private String text() {
        StringBuilder text = new StringBuilder();
        int orders = 1 + random.nextInt(4);
        for (int n = 0; n < orders; n++) {
            text.append(n == 0 ? "" : ";").append(order());
        }
        if (random.nextInt(5) == 0) {
            int place = random.nextInt(text.length());
            text.setCharAt(place, "pwrynsc0123456789=/;x".charAt(random.nextInt(21)));
        }
        if (random.nextInt(12) == 0) {
            text.setLength(random.nextInt(text.length() + 1));
        }
        return text.toString();
    }

    private String order() {
        int ticket = argument("redeem", 0) & 15;
        switch (random.nextInt(7)) {
            case 0: return "p" + random.nextInt(random.nextInt(9) == 0 ? 10 : 6) + "=" + (300 + random.nextInt(700)) + "/"
                + random.nextInt(150);
            case 1: return "w" + random.nextInt(random.nextInt(5) == 0 ? 25 : 4);
            case 2: return "r" + ticket;
            case 3: return "y" + ticket + "=" + random.nextInt(60);
            case 4: return "n" + ticket;
            case 5: return "s" + ticket + "=" + random.nextInt(1500);
            default: return "c" + random.nextInt(6);
        }
    }
}
