/** Promises 24 to 27 at their edges: the last that is still right and the first that is not, on both sides. */
public final class EdgesOfTextsTest {
    private static final String SIGNS = "pwrynsc0=/;";

    public static void main(String[] args) {
        sixtySigns();
        everySign();
        sixtySignsRun();
        emptyAfterwards();
        shortestTexts();
        numbersOfDigits();
        endsTooEarly();
        signsBesideDigits();
        signsInPlaceOfOthers();
        lettersOfOrders();
        emptyOrders();
        allShortTexts();
        fullTextsWithErrors();
        latestRun();
        numbersInRange();
        numbersOutOfRange();
        allOrNothing();
        oneAfterTheOther();
        numberOfTheOrder();
        reasons();
        causes();
        reasonsWithoutCause();
        latestReason();
        Checks.end("EdgesOfTextsTest");
    }

    private static CoatPledges typed(CoatPledges x, String text) {
        Checks.type(x, text);
        return x;
    }

    private static void sixtySigns() {
        Checks.promise(24);
        Checks.sentence("if the input contains 60 characters");
        CoatPledges x = new CoatPledges();
        for (int n = 1; n <= 60; n++) {
            Checks.same("characters then", x.append('w'), n);
            Checks.same("characters in the input", x.account(14), n);
        }
        Checks.fails("61st", Checks.STATE, () -> x.append('w'));
        Checks.fails("62nd", Checks.STATE, () -> x.append((char) 0));
        Checks.same("still", x.account(14), 60);
        Checks.fails("run", Checks.ARGUMENT, x::run);
        for (int n = 1; n <= 60; n++) {
            Checks.same("from anew", x.append('w'), n);
        }
        Checks.fails("61st again", Checks.STATE, () -> x.append('w'));
    }

    private static void everySign() {
        Checks.promise(24);
        Checks.sentence("Appends a character to the input");
        for (int sign : new int[] {0, 9, 10, 32, 127, 128, 255, 256, 0x0660, 0xd800, 0xff10, 0xffff}) {
            CoatPledges x = new CoatPledges();
            Checks.same("sign " + sign, x.append((char) sign), 1);
            Checks.fails("run", Checks.ARGUMENT, x::run);
            Checks.same("its place", x.errorPosition(), 0);
        }
        CoatPledges y = new CoatPledges();
        Checks.type(y, "w20");
        Checks.same("to append does nothing yet", y.account(0), 0);
        Checks.same("the signs in their order", y.run(), 1);
        Checks.same("week", y.account(0), 20);
    }

    private static void sixtySignsRun() {
        Checks.promise(25);
        Checks.sentence("The input has at most 60 characters");
        CoatPledges x = typed(new CoatPledges(), "w1;".repeat(19) + "w20");
        Checks.fails("61st", Checks.STATE, () -> x.append('0'));
        Checks.same("60 characters", x.run(), 20);
        Checks.same("week", x.account(0), 39);
        CoatPledges y = typed(new CoatPledges(), "w1;".repeat(19) + "w2");
        Checks.same("59 characters", y.run(), 20);
        CoatPledges z = typed(new CoatPledges(), "p0=100/10;".repeat(5) + "p5=999/599");
        Checks.same("60 characters of pledges", z.run(), 6);
        Checks.same("the last of them", z.pledgeOf(5, 2), 599);
    }

    private static void emptyAfterwards() {
        Checks.promise(25);
        Checks.sentence("the text in the input, which is empty afterwards, also if an exception is thrown");
        for (String text : new String[] {"w1", "r0", "x", "", "w1;", "x".repeat(60), "w1;".repeat(19) + "r00"}) {
            CoatPledges x = typed(new CoatPledges(), text);
            Checks.outcome(x::run);
            Checks.same("input behind " + text, x.account(14), 0);
            Checks.fails("nothing is run again", Checks.ARGUMENT, x::run);
            Checks.same("too early", x.errorPosition(), 0);
        }
    }

    private static void shortestTexts() {
        Checks.promise(25);
        Checks.sentence("Returns the number of orders");
        CoatPledges x = Banks.with(16);
        x.pass(1);
        String[] texts = {"w1", "r0", "n1", "y1=1", "p0=2/1", "s0=1", "c0"};
        boolean[] canBe = {true, true, true, true, false, false, false};
        for (int n = 0; n < texts.length; n++) {
            Checks.type(x, texts[n]);
            Checks.same(texts[n], Checks.outcome(x::run), canBe[n] ? 1 : Checks.REFUSED);
            Checks.same("no error in " + texts[n], x.errorPosition(), -1);
        }
        for (int orders = 1; orders <= 20; orders++) {
            CoatPledges y = typed(new CoatPledges(), ";w1".repeat(orders).substring(1));
            Checks.same("orders", y.run(), orders);
            Checks.same("weeks", y.account(0), orders);
            Checks.same("one change", y.account(15), 1);
        }
    }

    private static void right(String text) {
        CoatPledges x = typed(new CoatPledges(), text);
        Checks.outcome(x::run);
        Checks.same("errorPosition of " + text, x.errorPosition(), -1);
    }

    private static void numbersOfDigits() {
        Checks.promise(26);
        Checks.sentence("Owners have one digit; weeks and tickets one or two; worths, loans and amounts one to three, "
            + "prices one to four");
        String[] all = {"p0=1/1", "p9=12/12", "p5=123/123", "p0=000/000", "w0", "w00", "w99", "r0", "r00", "r99",
            "y0=0", "y00=00", "y99=999", "n0", "n00", "n99", "s0=0", "s00=00", "s1=000", "s99=9999", "c0", "c9"};
        for (String text : all) {
            right(text);
            right(text + ";" + text);
        }
        Object[][] more = {{"p00=1/1", 2}, {"p0=1234/1", 6}, {"p0=1/1234", 8}, {"w000", 3}, {"r000", 3}, {"y000=1", 3},
            {"y0=0000", 6}, {"n000", 3}, {"s000=1", 3}, {"s0=00000", 7}, {"c00", 2}};
        for (Object[] row : more) {
            Checks.error((String) row[0], (int) row[1]);
            Checks.error("w1;" + row[0], 3 + (int) row[1]);
        }
    }

    private static void endsTooEarly() {
        Checks.promise(26);
        Checks.sentence("or the length of the text if it ends too early");
        String[] all = {"p0=123/123", "w12", "r12", "y12=123", "n12", "s12=1234", "c1"};
        for (String text : all) {
            int least = text.startsWith("p") ? 8 : text.startsWith("y") || text.startsWith("s") ? 5 : 2;
            for (int length = 0; length < least; length++) {
                Checks.error(text.substring(0, length), length);
                Checks.error("w1;" + text.substring(0, length), 3 + length);
            }
            for (int length = least; length <= text.length(); length++) {
                right(text.substring(0, length));
            }
        }
    }

    private static void signsBesideDigits() {
        Checks.promise(26);
        Checks.sentence("the offset of the first character that cannot continue such a text");
        char[] noDigits = {'/', ':', ' ', '-', '+', (char) 0x0660, (char) 0x0966, (char) 0xff11, (char) ('1' + 256)};
        for (char sign : noDigits) {
            String[] texts = {"p" + sign, "p0=" + sign, "p0=1/" + sign, "w" + sign, "r" + sign, "y" + sign,
                "y0=" + sign, "n" + sign, "s" + sign, "s0=" + sign, "c" + sign};
            for (String text : texts) {
                Checks.error(text, text.length() - 1);
                Checks.error(text + "1", text.length() - 1);
            }
        }
    }

    private static void signsInPlaceOfOthers() {
        Checks.promise(26);
        Checks.sentence("with a semicolon between two of them");
        for (char sign : new char[] {':', ',', '<', '=', '/', ' ', '\n', (char) (';' + 256), 'w'}) {
            Checks.error("w1" + sign + "w1", 2);
            Checks.error("w11" + sign + "w1", 3);
            Checks.error("c1" + sign, 2);
        }
        Checks.sentence("\"=\" and \"/\" in an order");
        for (char sign : new char[] {'<', '-', ';', ':', ' ', (char) ('=' + 256), 'p'}) {
            Checks.error("p0" + sign + "1/1", 2);
            Checks.error("y1" + sign + "1", 2);
            Checks.error("s12" + sign + "1", 3);
            Checks.error("p0=1" + sign + "1", 4);
            Checks.error("p0=123" + sign + "1", 6);
        }
        Checks.error("p0/1=1", 2);
        Checks.error("p0=1=1", 4);
        Checks.error("y1/1", 2);
        Checks.error("s1/1", 2);
    }

    private static void lettersOfOrders() {
        Checks.promise(26);
        Checks.sentence("A text consists of orders");
        for (int sign = 0; sign < 512; sign++) {
            if ("pwrynsc".indexOf(sign) < 0) {
                Checks.error((char) sign + "1", 0);
                Checks.error("w1;" + (char) sign + "1", 3);
            }
        }
    }

    private static void emptyOrders() {
        Checks.promise(26);
        Checks.sentence("with a semicolon between two of them");
        Checks.error("", 0);
        Checks.error(";", 0);
        Checks.error(";w1", 0);
        Checks.error("w1;", 3);
        Checks.error("w1;;", 3);
        Checks.error("w1;;w1", 3);
        Checks.error("w1;w1;", 6);
        Checks.error(" ", 0);
        Checks.error("w1; w1", 3);
        Checks.error("w1 ;w1", 2);
        Checks.error("w 1", 1);
    }

    /** Against the pattern of ReplayModel, another way to tell where a text goes wrong. */
    private static void allShortTexts() {
        Checks.promise(26);
        Checks.sentence("The error position of a text");
        int most = SIGNS.length() * SIGNS.length() * SIGNS.length() * SIGNS.length();
        for (int length = 1, number = SIGNS.length(); number <= most; length++, number *= SIGNS.length()) {
            for (int n = 0; n < number; n++) {
                StringBuilder text = new StringBuilder();
                for (int rest = n, place = 0; place < length; rest /= SIGNS.length(), place++) {
                    text.append(SIGNS.charAt(rest % SIGNS.length()));
                }
                CoatPledges x = typed(new CoatPledges(), text.toString());
                Checks.outcome(x::run);
                Checks.same("errorPosition of " + text, x.errorPosition(), ReplayModel.errorOf(text.toString()));
            }
        }
    }

    private static void fullTextsWithErrors() {
        Checks.promise(26);
        Checks.sentence("or the length of the text if it ends too early");
        Checks.error("w1;".repeat(20), 60);
        Checks.error("w1;".repeat(19) + "w1x", 59);
        Checks.error("w1;".repeat(19) + "y00", 60);
        Checks.error("w1;".repeat(19) + "p0=", 60);
        Checks.error("w1;".repeat(18) + "w123;w", 57);
        Checks.error("w".repeat(60), 1);
        Checks.error("x" + "w1;".repeat(19), 0);
        Checks.error("p0=100/10;".repeat(6), 60);
        Checks.error("p0=100/10;".repeat(5) + "p0=100/10x", 59);
    }

    private static void latestRun() {
        Checks.promise(26);
        Checks.sentence("or -1 if that text had no error or run has not been called");
        CoatPledges x = new CoatPledges();
        Checks.same("at first", x.errorPosition(), -1);
        Checks.type(x, "w1;x");
        Checks.same("run has not been called", x.errorPosition(), -1);
        Checks.fails("an error", Checks.ARGUMENT, x::run);
        Checks.same("its place", x.errorPosition(), 3);
        Checks.type(x, "r0");
        Checks.same("of the latest call of run", x.errorPosition(), 3);
        Checks.fails("refused", Checks.REFUSED, x::run);
        Checks.same("a refused text has no error", x.errorPosition(), -1);
        Checks.fails("an empty text", Checks.ARGUMENT, x::run);
        Checks.same("its end", x.errorPosition(), 0);
        Checks.type(x, "w1");
        x.run();
        Checks.same("a text that is carried out", x.errorPosition(), -1);
        Checks.type(x, "w1;w");
        Checks.fails("too early", Checks.ARGUMENT, x::run);
        x.undo();
        x.pledge(0, 10, 6);
        x.line(0);
        x.save();
        x.restore();
        x.append('x');
        Checks.outcome(() -> x.rate(20));
        Checks.same("it stays", x.errorPosition(), 4);
    }

    private static void numbersInRange() {
        Checks.promise(25);
        Checks.sentence("Carries out the text in the input");
        CoatPledges x = typed(new CoatPledges(), "p0=999/599;p5=002/001;w01;y00=001;w20");
        Checks.same("orders", x.run(), 5);
        Checks.same("week", x.account(0), 21);
        Checks.same("owner", x.pledgeOf(1, 0), 5);
        Checks.same("worth", x.pledgeOf(1, 1), 2);
        Checks.same("paid", x.pledgeOf(0, 8), 1);
        Checks.type(x, "s0=9999;s01=0015;c0");
        Checks.same("orders", x.run(), 3);
        Checks.same("claimed", x.ownerOf(0, 6), 9999 - 599 - 9 * 12 + 1 - 5);
        Checks.same("left over by the fee", x.ownerOf(5, 5), 0);
        Checks.same("no loss", x.account(11), 0);
        CoatPledges y = typed(Banks.with(16), "w8;n15;y15=5;w8;r15;r9");
        Checks.outcome(y::run);
        Checks.same("the ninth is a lot by then", y.refusal(true, true), 1);
        Checks.type(y, "w8;n15;y15=5;w8;r15");
        Checks.same("the highest ticket", y.run(), 5);
        Checks.same("paid on it", y.pledgeOf(15, 8), 8 + 5 + 1 + 8);
        CoatPledges z = typed(new CoatPledges(), "p1=20/12;p1=30/18");
        z.run();
        Checks.same("owner, worth and loan", Checks.lineOf(z, 1), "#1 30/18+0 p");
    }

    private static void numbersOutOfRange() {
        Checks.promise(27);
        Checks.sentence("or 0, with the detail 0, if it would throw another exception");
        String before = Checks.stateOf(Banks.running(60));
        String[] all = {"p6=10/6", "p9=10/6", "p0=0/1", "p0=000/001", "p0=10/0", "p0=10/000", "w0", "w00", "w21",
            "w99", "r1", "r01", "r16", "r99", "y1=1", "y0=0", "y0=000", "y99=0", "n1", "n99", "s1=1", "s0=0",
            "s0=0000", "s99=0", "c6", "c9"};
        for (String text : all) {
            CoatPledges x = Banks.running(60);
            Checks.textRefused(x, "r0;r0", 1, 4, 2);
            Checks.textRefused(x, text, 0, 0, 0);
            Checks.textRefused(x, "w1;" + text, 1, 0, 0);
            Checks.same("state behind " + text, Checks.stateOf(x), before);
        }
    }

    private static void allOrNothing() {
        Checks.promise(25);
        Checks.sentence("A text is carried out if each order can be; else nothing of it is");
        String before = Checks.stateOf(Banks.redeemed());
        for (int place = 0; place < 20; place++) {
            String text = "w1;".repeat(place) + "r0" + ";w1".repeat(19 - place);
            CoatPledges x = Banks.redeemed();
            Checks.textRefused(x, text, place, 4, 2);
            Checks.same("state", Checks.stateOf(x), before);
            Checks.same("changes", x.account(15), 2);
            CoatPledges y = Banks.redeemed();
            Checks.type(y, text.replace("r0", "rx"));
            Checks.fails("an error", Checks.ARGUMENT, y::run);
            Checks.same("error", y.errorPosition(), 3 * place + 1);
            Checks.same("state behind an error", Checks.stateOf(y), before);
        }
        CoatPledges z = Banks.redeemed();
        Checks.type(z, "p0=100/60;w9;s1=200;c0;r0");
        Checks.fails("the last order", Checks.REFUSED, z::run);
        Checks.same("neither pledge nor week, sale nor claim", Checks.stateOf(z), before);
        z.undo();
        Checks.same("the change ahead of it", z.pledgeOf(0, 4), 0);
    }

    private static void oneAfterTheOther() {
        Checks.promise(25);
        Checks.sentence("A text is carried out if each order can be, one after the other");
        CoatPledges x = new CoatPledges();
        Checks.textRefused(x, "r0;p0=10/6", 0, 0, 0);
        Checks.textRefused(x, "p0=10/6;r0;r0", 2, 4, 2);
        Checks.textRefused(x, "p0=10/6;r1", 1, 0, 0);
        Checks.textRefused(x, "p0=999/500;w8;s0=999", 2, 7, 0);
        Checks.textRefused(x, "p0=999/500;w9;s0=594", 2, 8, 595);
        Checks.textRefused(x, "p0=999/500;w9;c0;s0=999", 2, 9, 0);
        Checks.type(x, "p0=999/500;w9;s0=999;c0");
        Checks.same("each by what came ahead of it", x.run(), 4);
        CoatPledges y = Banks.with(10);
        String six = "p0=10/6;".repeat(5) + "p1=5/3";
        Checks.textRefused(y, six + ";p0=2/1", 6, 1, 16);
        Checks.type(y, six);
        Checks.same("16 in all", y.run(), 6);
        CoatPledges z = new CoatPledges();
        Checks.textRefused(z, "p0=999/599;p0=999/599;p0=999/599;p0=999/204", 3, 3, 203);
        Checks.type(z, "p0=999/599;p0=999/599;p0=999/599;p0=999/203");
        Checks.same("all the cash", z.run(), 4);
        Checks.textRefused(z, "p0=2/1", 0, 3, 0);
        Checks.type(z, "y0=1;p0=2/1");
        Checks.same("what is paid in the text", z.run(), 2);
    }

    private static void numberOfTheOrder() {
        Checks.promise(27);
        Checks.sentence("reason 11, an order is refused: its number in the text, from 0");
        CoatPledges x = Banks.redeemed();
        Checks.textRefused(x, "r0;r1;p0=10/7", 0, 4, 2);
        Checks.textRefused(x, "w1;r1;r0", 1, 0, 0);
        Checks.textRefused(x, "w1;p0=10/7;r0", 1, 2, 6);
        Checks.textRefused(x, "w1;".repeat(19) + "r0", 19, 4, 2);
    }

    private static void reasons() {
        Checks.promise(27);
        Checks.sentence("Returns the latest reason");
        CoatPledges full = Banks.full();
        Checks.refused("16 pledges", full, 1, 16, () -> full.pledge(0, 10, 6));
        Checks.refused("loan", full, 2, 6, () -> full.pledge(0, 10, 7));
        CoatPledges poor = Banks.poor();
        Checks.refused("cash, of a loan", poor, 3, 87, () -> poor.pledge(0, 999, 88));
        Checks.refused("cash, of a claim", poor, 3, 87, () -> poor.claim(0));
        Checks.refused("what it is", poor, 4, 3, () -> poor.renew(0));
        Checks.refused("what is owed", poor, 5, 599, () -> poor.pay(2, 599));
        Checks.refused("the loan", poor, 6, 599, () -> poor.renew(2));
        Checks.refused("what is no lot", poor, 7, 0, () -> poor.sell(2, 9999));
        Checks.refused("the reserve", poor, 8, 712, () -> poor.sell(1, 711));
        Checks.refused("how many were sold", poor, 9, 0, () -> poor.claim(1));
        Checks.refused("the rate", poor, 10, 20, () -> poor.rate(20));
        Checks.refused("the fee", poor, 10, 5, () -> poor.fee(5));
        Checks.textRefused(poor, "w1;c0", 1, 3, 87);
    }

    private static void causes() {
        Checks.promise(27);
        Checks.sentence("the reason for which the method of the order is refused");
        CoatPledges full = Banks.full();
        Checks.textRefused(full, "p0=10/6", 0, 1, 16);
        Checks.textRefused(full, "p0=10/7", 0, 2, 6);
        CoatPledges poor = Banks.poor();
        Checks.textRefused(poor, "p0=999/88", 0, 3, 87);
        Checks.textRefused(poor, "p0=2/1;c0", 1, 3, 86);
        Checks.textRefused(poor, "r1", 0, 4, 1);
        Checks.textRefused(poor, "y0=1", 0, 4, 3);
        Checks.textRefused(poor, "n1", 0, 4, 1);
        Checks.textRefused(poor, "y2=599", 0, 5, 599);
        Checks.textRefused(poor, "w1;y2=611", 1, 5, 611);
        Checks.textRefused(poor, "n2", 0, 6, 599);
        Checks.textRefused(poor, "s2=9999", 0, 7, 0);
        Checks.textRefused(poor, "s0=9999", 0, 7, 3);
        Checks.textRefused(poor, "s1=711", 0, 8, 712);
        Checks.textRefused(poor, "s1=712;c1", 1, 9, 1);
        Checks.textRefused(poor, "c1", 0, 9, 0);
    }

    private static void reasonsWithoutCause() {
        Checks.promise(27);
        Checks.sentence("All other reasons have none");
        CoatPledges full = Banks.full();
        CoatPledges poor = Banks.poor();
        Checks.Call[] calls = {() -> full.pledge(0, 10, 6), () -> full.pledge(0, 10, 7), () -> poor.claim(0),
            () -> poor.redeem(0), () -> poor.pay(2, 999), () -> poor.renew(2), () -> poor.sell(0, 9999),
            () -> poor.sell(1, 1), () -> poor.claim(1), () -> poor.rate(20)};
        int[] reasons = {1, 2, 3, 4, 5, 6, 7, 8, 9, 10};
        int[] details = {16, 6, 87, 3, 599, 599, 3, 712, 0, 20};
        for (int n = 0; n < calls.length; n++) {
            CoatPledges x = n < 2 ? full : poor;
            Checks.textRefused(x, "w1;r0;r0;r0;r0", n < 2 ? 2 : 1, 4, n < 2 ? 2 : 3);
            Checks.refused("behind a cause, " + n, x, reasons[n], details[n], calls[n]);
        }
    }

    private static void latestReason() {
        Checks.promise(27);
        Checks.sentence("if nothing was refused");
        CoatPledges x = Banks.with(2);
        Checks.fails("wrong numbers", Checks.ARGUMENT, () -> x.rate(0));
        Checks.fails("wrong ticket", Checks.MISSING, () -> x.redeem(2));
        Checks.fails("wrong owner", Checks.BOUNDS, () -> x.claim(6));
        Checks.type(x, "x");
        Checks.fails("a text with an error", Checks.ARGUMENT, x::run);
        for (int n = 0; n < 4; n++) {
            boolean isCause = n > 1;
            boolean isDetail = n % 2 == 1;
            Checks.fails("none", Checks.MISSING, () -> x.refusal(isCause, isDetail));
        }
        Checks.textRefused(x, "r0;y1=6", 1, 5, 6);
        Checks.sentence("The input, the line, the error position and the reason are neither undone nor saved");
        Checks.fails("wrong numbers", Checks.ARGUMENT, () -> x.pass(21));
        Checks.type(x, "r0;r0;");
        Checks.fails("a text with an error", Checks.ARGUMENT, x::run);
        Checks.type(x, "r0");
        x.run();
        x.undo();
        x.save();
        x.pledge(0, 10, 6);
        x.restore();
        int[] due = {11, 1, 5, 6};
        for (int n = 0; n < 4; n++) {
            Checks.same("it stays, " + n, x.refusal(n > 1, n % 2 == 1), due[n]);
        }
    }
}
