import java.util.ArrayList;
import java.util.Comparator;
import java.util.List;
import java.util.NoSuchElementException;
import java.util.regex.Matcher;
import java.util.regex.Pattern;

/**
 * The document a second time, in another way: only the changes are kept, and for each answer they are all carried
 * out anew, so undo and the snapshot cannot go wrong as those of the class could.
 */
final class ReplayModel {
    private static final Pattern ORDER = Pattern.compile(
        "p\\d=\\d{1,3}/\\d{1,3}|w\\d{1,2}|r\\d{1,2}|y\\d{1,2}=\\d{1,3}|n\\d{1,2}|s\\d{1,2}=\\d{1,4}|c\\d");
    private static final Pattern TEXT = Pattern.compile("(" + ORDER + ")(;(" + ORDER + "))*");

    private static final class Refused extends RuntimeException {
        private static final long serialVersionUID = 1L;
        final int reason;
        final int detail;

        Refused(int reason, int detail) {
            this.reason = reason;
            this.detail = detail;
        }
    }

    private static final class Coat {
        int ticket;
        int owner;
        int worth;
        int loan;
        int interest;
        int rate;
        int term;
        int reserve;
        int due;
        int paid;
        String is = "p";

        int owed() {
            return loan + interest;
        }

        int is() {
            return "plrs".indexOf(is);
        }
    }

    private static final class World {
        int week = 0;
        int rate = 20;
        int fee = 5;
        int cash = 2000;
        int lent = 0;
        int paid = 0;
        int prices = 0;
        int losses = 0;
        final int[] left = new int[6];
        final int[] claimed = new int[6];
        final List<Coat> coats = new ArrayList<>();
        final List<Coat> lots = new ArrayList<>();

        Coat coat(int ticket) {
            if (ticket < 0 || ticket >= coats.size()) throw new NoSuchElementException();
            return coats.get(ticket);
        }

        int carryOut(int[] c) {
            switch (c[0]) {
                case 'p': return pledge(c[1], c[2], c[3]);
                case 'R': return setRate(c[1]);
                case 'F': return setFee(c[1]);
                case 'w': return pass(c[1]);
                case 'r': return redeem(coat(c[1]));
                case 'y': return pay(coat(c[1]), c[2]);
                case 'n': return renew(coat(c[1]));
                case 's': return sell(coat(c[1]), c[2]);
                case 'c': return claim(c[1]);
                default: throw new AssertionError();
            }
        }

        int pledge(int owner, int worth, int loan) {
            if (owner < 0 || owner > 5) throw new IndexOutOfBoundsException();
            if (worth < 1 || worth > 999 || loan < 1) throw new IllegalArgumentException();
            int most = worth * 6 / 10;
            if (loan > most) throw new Refused(2, most);
            if (coats.size() == 16) throw new Refused(1, 16);
            if (loan > cash) throw new Refused(3, cash);
            Coat coat = new Coat();
            coat.ticket = coats.size();
            coat.owner = owner;
            coat.worth = worth;
            coat.loan = loan;
            coat.rate = rate;
            coat.term = week;
            coats.add(coat);
            lent += loan;
            cash -= loan;
            return coat.ticket;
        }

        int setRate(int newRate) {
            if (newRate < 1 || newRate > 60) throw new IllegalArgumentException();
            if (newRate == rate) throw new Refused(10, rate);
            int before = rate;
            rate = newRate;
            return before;
        }

        int setFee(int newFee) {
            if (newFee < 0 || newFee > 20) throw new IllegalArgumentException();
            if (newFee == fee) throw new Refused(10, fee);
            int before = fee;
            fee = newFee;
            return before;
        }

        int pass(int weeks) {
            if (weeks < 1 || weeks > 20) throw new IllegalArgumentException();
            int before = lots.size();
            for (int w = 0; w < weeks; w++) {
                week++;
                for (Coat lot : lots) lot.reserve -= lot.reserve / 10;
                for (Coat coat : coats) {
                    if (!coat.is.equals("p")) continue;
                    coat.interest += (int) Math.ceil(coat.loan * coat.rate / 1000.0);
                    if (week - coat.term == 9) {
                        coat.is = "l";
                        coat.due = coat.owed() + fee;
                        coat.reserve = coat.due;
                        lots.add(coat);
                    }
                }
            }
            return lots.size() - before;
        }

        void needRunning(Coat coat) {
            if (!coat.is.equals("p")) throw new Refused(4, coat.is());
        }

        void receive(Coat coat, int amount) {
            coat.paid += amount;
            paid += amount;
            cash += amount;
        }

        int redeem(Coat coat) {
            needRunning(coat);
            int owed = coat.owed();
            receive(coat, owed);
            coat.loan = 0;
            coat.interest = 0;
            coat.is = "r";
            return owed;
        }

        int pay(Coat coat, int amount) {
            if (amount < 1) throw new IllegalArgumentException();
            needRunning(coat);
            if (amount >= coat.owed()) throw new Refused(5, coat.owed());
            receive(coat, amount);
            coat.interest -= amount;
            if (coat.interest < 0) {
                coat.loan += coat.interest;
                coat.interest = 0;
            }
            return coat.owed();
        }

        int renew(Coat coat) {
            needRunning(coat);
            if (coat.interest == 0) throw new Refused(6, coat.loan);
            int interest = coat.interest;
            receive(coat, interest);
            coat.interest = 0;
            coat.term = week;
            return interest;
        }

        int sell(Coat coat, int price) {
            if (price < 1 || price > 9999) throw new IllegalArgumentException();
            if (!coat.is.equals("l")) throw new Refused(7, coat.is());
            if (price < coat.reserve) throw new Refused(8, coat.reserve);
            coat.is = "s";
            coat.reserve = 0;
            lots.remove(coat);
            prices += price;
            cash += price;
            if (price < coat.due) {
                losses += coat.due - price;
                return 0;
            }
            left[coat.owner] += price - coat.due;
            return price - coat.due;
        }

        int claim(int owner) {
            if (owner < 0 || owner > 5) throw new IndexOutOfBoundsException();
            int amount = left[owner];
            if (amount == 0) throw new Refused(9, count("s", owner));
            if (amount > cash) throw new Refused(3, cash);
            left[owner] = 0;
            claimed[owner] += amount;
            cash -= amount;
            return amount;
        }

        int count(String is, int owner) {
            return (int) coats.stream().filter(c -> c.is.equals(is) && (owner < 0 || c.owner == owner)).count();
        }

        int[] accounts(int input, int changes) {
            return new int[] {week, coats.size(), count("p", -1), count("l", -1), count("r", -1), count("s", -1), lent,
                paid, prices, sum(claimed), sum(left), losses, rate, fee, input, changes};
        }
    }

    private List<int[][]> kept = new ArrayList<>();
    private int undoable = 0;
    private List<int[][]> saved = null;
    private String input = "";
    private String line = "";
    private int errorPosition = -1;
    private int[] latest = null;

    private World world() {
        World world = new World();
        for (int[][] change : kept) {
            for (int[] order : change) world.carryOut(order);
        }
        return world;
    }

    private void keep(int[][] change) {
        kept.add(change);
        undoable = Math.min(8, undoable + 1);
    }

    private int change(int[] order) {
        try {
            int answer = world().carryOut(order);
            keep(new int[][] {order});
            return answer;
        } catch (Refused e) {
            latest = new int[] {e.reason, e.detail};
            throw new UnsupportedOperationException();
        }
    }

    private int run() {
        String text = input;
        input = "";
        errorPosition = errorOf(text);
        if (errorPosition >= 0) throw new IllegalArgumentException();
        String[] parts = text.split(";");
        int[][] orders = new int[parts.length][];
        World world = world();
        for (int n = 0; n < parts.length; n++) {
            orders[n] = orderOf(parts[n]);
            try {
                world.carryOut(orders[n]);
            } catch (Refused e) {
                latest = new int[] {11, n, e.reason, e.detail};
                throw new UnsupportedOperationException();
            } catch (IndexOutOfBoundsException | IllegalArgumentException | NoSuchElementException e) {
                latest = new int[] {11, n, 0, 0};
                throw new UnsupportedOperationException();
            }
        }
        keep(orders);
        return parts.length;
    }

    static int errorOf(String text) {
        for (int n = 1; n <= text.length(); n++) {
            Matcher matcher = TEXT.matcher(text.substring(0, n));
            if (!matcher.matches() && !matcher.hitEnd()) return n - 1;
        }
        return TEXT.matcher(text).matches() ? -1 : text.length();
    }

    private static int[] orderOf(String part) {
        String[] numbers = part.substring(1).split("[=/]");
        int[] order = {part.charAt(0), 0, 0, 0};
        for (int n = 0; n < numbers.length; n++) order[n + 1] = Integer.parseInt(numbers[n]);
        return order;
    }

    /** What the document asks of the call: its answer; its exception is thrown. */
    Object due(String call, int a, int b, int c) {
        World w = world();
        switch (call) {
            case "pledge": return change(new int[] {'p', a, b, c});
            case "rate": return change(new int[] {'R', a});
            case "fee": return change(new int[] {'F', a});
            case "pass": return change(new int[] {'w', a});
            case "redeem": return change(new int[] {'r', a});
            case "pay": return change(new int[] {'y', a, b});
            case "renew": return change(new int[] {'n', a});
            case "sell": return change(new int[] {'s', a, b});
            case "claim": return change(new int[] {'c', a});
            case "pledgeOf": return numberOf(w.coat(a), b);
            case "lotAt": return placeOf(w.lots, a);
            case "ranked": return placeOf(rankedOf(w), a);
            case "quote":
            case "quoteAgain": return costOf(w, a, b);
            case "willBeLots":
            case "willBeLotsAgain": return lotsIn(w, a);
            case "willReserve": return reserveOf(w, a, b);
            case "ownerOf": return ownerOf(w, a, b);
            case "cash": return w.cash;
            case "isWell": return true;
            default: return dueOfTexts(call, a, b, w);
        }
    }

    private Object dueOfTexts(String call, int a, int b, World w) {
        switch (call) {
            case "line":
                Coat coat = w.coat(a);
                line = "#" + a + " " + coat.worth + "/" + coat.loan + "+" + coat.interest + " " + coat.is;
                return line.length();
            case "character":
                if (a < 0 || a >= line.length()) throw new IndexOutOfBoundsException();
                return line.charAt(a);
            case "append":
                if (input.length() == 60) throw new IllegalStateException();
                input += (char) a;
                return input.length();
            case "run": return run();
            case "errorPosition": return errorPosition;
            case "refusal":
                if (latest == null || (a == 1 && latest.length == 2)) throw new NoSuchElementException();
                return latest[a * 2 + b];
            case "account":
                if (a < 0 || a > 15) throw new IllegalArgumentException();
                return w.accounts(input.length(), undoable)[a];
            case "meanLoan":
                if (w.count("p", -1) == 0) throw new ArithmeticException();
                return w.coats.stream().filter(x -> x.is.equals("p")).mapToInt(x -> x.loan).sum()
                    / (double) w.count("p", -1);
            case "redeemedShare":
                if (w.coats.isEmpty()) throw new ArithmeticException();
                return (float) w.count("r", -1) / w.coats.size();
            case "undo":
                if (undoable == 0) throw new IllegalStateException();
                kept.remove(kept.size() - 1);
                return --undoable;
            case "save":
                saved = new ArrayList<>(kept);
                return w.week;
            case "restore":
                if (saved == null) throw new IllegalStateException();
                kept = new ArrayList<>(saved);
                undoable = 0;
                return world().week;
            default: throw new AssertionError(call);
        }
    }

    private static int numberOf(Coat c, int what) {
        if (what < 0 || what > 8) throw new IllegalArgumentException();
        return new int[] {c.owner, c.worth, c.loan, c.interest, c.is(), c.term, c.rate, c.reserve, c.paid}[what];
    }

    private static int placeOf(List<Coat> lots, int place) {
        if (place < 0 || place >= lots.size()) throw new NoSuchElementException();
        return lots.get(place).ticket;
    }

    private static List<Coat> rankedOf(World w) {
        List<Coat> lots = new ArrayList<>(w.lots);
        lots.sort(Comparator.<Coat>comparingInt(c -> -c.reserve).thenComparingInt(c -> c.ticket));
        return lots;
    }

    private static void needWeeks(int weeks) {
        if (weeks < 0 || weeks > 20) throw new IllegalArgumentException();
    }

    // Ahead, the weeks really go by here: the world of this answer is not used again.
    private static int costOf(World w, int ticket, int weeks) {
        Coat coat = w.coat(ticket);
        needWeeks(weeks);
        if (weeks > 0) w.pass(weeks);
        if (!coat.is.equals("p")) throw new IllegalStateException();
        return coat.owed();
    }

    private static int lotsIn(World w, int weeks) {
        needWeeks(weeks);
        return weeks == 0 ? 0 : w.pass(weeks);
    }

    private static int reserveOf(World w, int ticket, int weeks) {
        Coat coat = w.coat(ticket);
        needWeeks(weeks);
        if (!coat.is.equals("l")) throw new IllegalStateException();
        if (weeks > 0) w.pass(weeks);
        return coat.reserve;
    }

    private static int ownerOf(World w, int owner, int what) {
        if (owner < 0 || owner > 5) throw new IndexOutOfBoundsException();
        if (what < 0 || what > 6) throw new IllegalArgumentException();
        int owed = w.coats.stream().filter(c -> c.owner == owner && c.is.equals("p")).mapToInt(Coat::owed).sum();
        return new int[] {w.count("p", owner), owed, w.count("l", owner), w.count("r", owner), w.count("s", owner),
            w.left[owner], w.claimed[owner]}[what];
    }

    private static int sum(int[] row) {
        int sum = 0;
        for (int number : row) sum += number;
        return sum;
    }
}
