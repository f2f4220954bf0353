import java.util.List;
import java.util.Random;

/** Runs of chance calls, the same each time, whose answers must be those of NaiveHouse. */
public final class FuzzTests {
    private static final int RUNS = 1500, CALLS = 512, NONE = HourHouse.NONE;
    private static final int[] ODD = {Integer.MIN_VALUE, Integer.MAX_VALUE, -1, -2, NONE, HourHouse.BAD, 1000000, -99, 65536};

    private final Random chance;
    private final HourHouse x = new HourHouse();
    private final NaiveHouse y = new NaiveHouse();
    private String last = "";
    private int made = 0;

    private FuzzTests(long seed) {
        chance = new Random(seed);
    }

    public static void main(String[] args) {
        int runs = args.length > 0 ? Integer.parseInt(args[0]) : RUNS;
        int wrong = 0;
        long[] answers = new long[44];
        long[] refused = new long[44];
        for (int run = 0; run < runs && wrong < 10; run++) {
            FuzzTests one = new FuzzTests(run);
            int style = run % 7;
            StringBuilder log = new StringBuilder();
            while (one.made < CALLS) {
                int which = one.choose(style);
                int[] both = one.call(which);
                log.append(one.last).append(" = ").append(both[0]).append('\n');
                answers[which]++;
                if (both[0] < 0) refused[which]++;
                if (both[0] != both[1]) {
                    wrong++;
                    System.out.println("run " + run + ", call " + one.made + ": " + one.last + " answered " + both[0] + ", due is " + both[1]);
                    if (args.length > 1) System.out.println(log);
                    break;
                }
            }
        }
        if (args.length > 1) for (int i = 1; i < 44; i++) System.out.println(i + ": " + answers[i] + " calls, " + refused[i] + " refused");
        System.out.println(wrong == 0 ? runs + " runs are as due" : "runs are not as due");
        if (wrong != 0) System.exit(1);
    }

    private int of(int n) {
        return n <= 0 ? 0 : chance.nextInt(n);
    }

    /** A number of a thing of which there are n; now and then one that is none. */
    private int some(int n) {
        if (of(40) == 0) return odd();
        if (of(25) == 0) return n;
        return of(n);
    }

    private int odd() {
        return ODD[of(ODD.length)];
    }

    private int upTo(int least, int most) {
        int pick = of(40);
        if (pick == 0) return odd();
        if (pick == 1) return least - 1;
        if (pick == 2) return most + 1;
        if (pick == 3) return least;
        if (pick == 4) return most;
        return least + of(most - least + 1);
    }

    private int today() {
        return y.count(10);
    }

    /** A day near today, or one that few others share, or any. */
    private int day() {
        int pick = of(14);
        if (pick > 9) return Math.min(today(), of(3));
        if (pick < 5) return upTo(Math.max(0, today() - 2), today());
        if (pick < 7) return upTo(0, Math.min(3, today()));
        return upTo(0, today());
    }

    private int span() {
        if (of(30) == 0) return odd();
        int from = of(4) == 0 ? of(242) : of(60);
        int n = of(5) == 0 ? of(245) : of(40);
        return 1000 * from + n;
    }

    private static final int[] BUILD = {1, 4, 6, 6, 8, 10, 10, 10, 10, 10, 10, 10, 12, 18, 18, 22, 23, 28, 30};

    /** Styles: 0 all calls alike, 1 entries and bills, 2 plans, 3 terms, 4 stages, 5 trust that is nearly full, 6 days. */
    private int choose(int style) {
        if (made < 8) return 1;
        if (made < 12) return 3;
        if (made < 20) return 4;
        if (made < 50) return BUILD[of(BUILD.length)];
        if (style == 5 && made < 270) return of(12) == 0 ? 26 : of(12) == 0 ? 19 : of(4) == 0 ? 10 : of(5) == 0 ? 25 : 23;
        int pick = of(3);
        if (style == 4 && pick > 0) return new int[] {28, 29, 29, 29, 10, 10, 10, 8, 38, 39, 39}[of(11)];
        if (style == 5 && pick > 0) return new int[] {23, 24, 25, 26, 26, 26, 19, 10, 21}[of(9)];
        if (style == 6 && pick > 0) return new int[] {13, 13, 13, 12, 10, 10, 11, 9, 8}[of(9)];
        if (style == 1 && pick > 0) return new int[] {8, 10, 10, 10, 11, 14, 15, 19, 19, 20, 21, 24, 25, 26, 27, 26}[of(16)];
        if (style == 2 && pick > 0) return new int[] {30, 31, 32, 32, 33, 34, 35, 36, 37, 37, 7, 40, 41, 42}[of(14)];
        if (style == 3 && pick > 0) return new int[] {10, 10, 15, 15, 18, 18, 18, 18, 14, 38, 39}[of(11)];
        return 1 + of(43);
    }

    private int[] both(String name, int a, int b) {
        made++;
        last = name;
        return new int[] {a, b};
    }

    private String name(String call, int... args) {
        StringBuilder s = new StringBuilder(call).append('(');
        for (int i = 0; i < args.length; i++) s.append(i == 0 ? "" : ", ").append(args[i]);
        return s.append(')').toString();
    }

    private int[] call(int which) {
        int people = y.count(0), clients = y.count(1), matters = y.count(2), entries = y.count(3), bills = y.count(6);
        int a, b, c, d, e;
        switch (which) {
            case 1:
                a = upTo(0, 3); b = of(2) == 0 ? upTo(1, 20) : upTo(1, 999);
                return both(name("person", a, b), x.person(a, b), y.person(a, b));
            case 2:
                a = some(people); b = upTo(0, 3);
                return both(name("is", a, b), x.is(a, b), y.is(a, b));
            case 3:
                return both("client()", x.client(), y.client());
            case 4:
                a = of(2) == 0 ? 0 : upTo(0, 3); b = some(clients); c = of(2) == 0 ? upTo(0, 500) : upTo(0, 99999);
                return both(name("matter", a, b, c), x.matter(a, b, c), y.matter(a, b, c));
            case 5:
                a = some(matters); b = upTo(0, 3);
                return both(name("isOf", a, b), x.isOf(a, b), y.isOf(a, b));
            case 6:
                a = some(matters); b = payer(clients); c = of(3) == 0 ? NONE : payer(clients); d = of(2) == 0 ? NONE : payer(clients);
                return both(name("payers", a, b, c, d), x.payers(a, b, c, d), y.payers(a, b, c, d));
            case 7:
                a = some(people); b = some(matters); c = of(3) == 0 ? 1 : upTo(0, 1);
                c = of(2) == 0 ? 0 : c;
                return both(name("wall", a, b, c), x.wall(a, b, c), y.wall(a, b, c));
            case 8:
                a = of(3) == 0 ? upTo(1, 100) : upTo(1, 9);
                return both(name("days", a), x.days(a), y.days(a));
            case 9:
                a = some(3); b = upTo(0, a == 0 ? 240 : a == 1 ? 100 : of(2) == 0 ? 900 : 40);
                return both(name("rule", a, b), x.rule(a, b), y.rule(a, b));
            case 10:
                a = some(people); b = some(matters); c = day(); d = span(); e = of(2) == 0 ? of(2) * 5 : upTo(0, 5);
                return both(name("entry", a, b, c, d, e), x.entry(a, b, c, d, e), y.entry(a, b, c, d, e));
            case 11:
                a = some(entries);
                return both(name("withdraw", a), x.withdraw(a), y.withdraw(a));
            case 12:
                a = some(people); b = day(); c = span();
                return both(name("door", a, b, c), x.door(a, b, c), y.door(a, b, c));
            case 13:
                a = some(people); b = day(); c = day(); d = upTo(0, 3);
                return both(name("written", a, b, c, d), x.written(a, b, c, d), y.written(a, b, c, d));
            case 14:
                a = some(entries); b = upTo(0, 10);
                return both(name("told", a, b), x.told(a, b), y.told(a, b));
            case 15:
                a = some(entries); b = of(2) == 0 ? today() : day(); c = upTo(0, 3);
                return both(name("worth", a, b, c), x.worth(a, b, c), y.worth(a, b, c));
            case 16:
                a = chance.nextInt(); b = chance.nextInt(); c = chance.nextInt();
                return both(name("feed", a, b, c), x.feed(a, b, c), y.feed(a, b, c));
            case 17:
                a = some(y.count(9) + 1);
                return both(name("trim", a), x.trim(a), y.trim(a));
            case 18:
                return text(clients);
            default:
                return callMore(which, people, clients, matters, entries, bills);
        }
    }

    private int[] callMore(int which, int people, int clients, int matters, int entries, int bills) {
        int a, b, c, d, e;
        switch (which) {
            case 19:
                a = some(matters); b = of(2) == 0 ? today() : day(); c = of(2) == 0 ? 0 : upTo(0, 100);
                return both(name("bill", a, b, c), x.bill(a, b, c), y.bill(a, b, c));
            case 20:
                a = some(bills); b = upTo(0, 6);
                return both(name("about", a, b), x.about(a, b), y.about(a, b));
            case 21:
                a = some(bills); b = some(clients); c = upTo(0, 1);
                return both(name("owes", a, b, c), x.owes(a, b, c), y.owes(a, b, c));
            case 22:
                a = some(matters); b = of(2) == 0 ? upTo(1, 99) : upTo(1, 99999);
                return both(name("retain", a, b), x.retain(a, b), y.retain(a, b));
            case 23:
                a = some(of(2) == 0 ? 1 : clients); b = of(3) > 0 ? 99999 : upTo(0, 99999);
                return both(name("trust", a, b), x.trust(a, b), y.trust(a, b));
            case 24:
                a = some(bills); b = some(clients);
                return both(name("draw", a, b), x.draw(a, b), y.draw(a, b));
            case 25:
                a = some(bills); b = some(clients); c = of(2) == 0 ? upTo(1, 99) : upTo(1, 99999);
                return both(name("pay", a, b, c), x.pay(a, b, c), y.pay(a, b, c));
            case 26:
                a = some(entries);
                return both(name("contest", a), x.contest(a), y.contest(a));
            case 27:
                a = some(entries);
                return both(name("middle", a), x.middle(a), y.middle(a));
            case 28:
                a = some(matters); b = of(4) == 0 ? 5 : of(4) > 0 ? 1 + of(2) : upTo(1, 5);
                return both(name("stage", a, b), x.stage(a, b), y.stage(a, b));
            case 29:
                a = some(matters); b = upTo(0, 1);
                return both(name("foretold", a, b), x.foretold(a, b), y.foretold(a, b));
            case 30:
                a = some(matters); b = of(2) == 0 ? upTo(1, 20) : upTo(1, 999); c = upTo(0, 2);
                return both(name("task", a, b, c), x.task(a, b, c), y.task(a, b, c));
            case 31:
                return of(3) > 0 ? call(30) : both("clear()", x.clear(), y.clear());
            case 32:
                a = some(people); b = of(2) == 0 ? upTo(0, 50) : upTo(0, 9999);
                return both(name("free", a, b), x.free(a, b), y.free(a, b));
            case 33:
                a = some(2);
                return both(name("lay", a), x.lay(a), y.lay(a));
            case 34:
                a = of(4) == 0 ? upTo(1, 40) : upTo(1, 30000);
                return both(name("plan", a), x.plan(a), y.plan(a));
            case 35:
                a = upTo(1, 30000); b = some(y.count(7));
                return both(name("planned", a, b), x.planned(a, b), y.planned(a, b));
            case 36:
                a = upTo(-3, 300);
                return both(name("tell", a), x.tell(a), y.tell(a));
            case 37:
                return rows();
            case 38:
                if (of(3) > 0) return call(39);
                return both("keep()", x.keep(), y.keep());
            case 39:
                if (of(3) > 0) return call(15);
                return both("back()", x.back(), y.back());
            case 40:
                a = some(2); b = upTo(0, 20);
                return both(name("sheet", a, b), x.sheet(a, b), y.sheet(a, b));
            case 41:
                a = some(2); b = some(20); c = of(2) == 0 ? chance.nextInt() : upTo(0, 9999);
                return both(name("mark", a, b, c), x.mark(a, b, c), y.mark(a, b, c));
            case 42:
                a = some(2); b = some(9); c = some(2); d = some(9); e = some(9);
                return both(name("copy", a, b, c, d, e), x.copy(a, b, c, d, e), y.copy(a, b, c, d, e));
            default:
                a = upTo(0, 12);
                return both(name("count", a), x.count(a), y.count(a));
        }
    }

    private int payer(int clients) {
        if (of(20) == 0) return odd();
        return 100 * of(clients + (of(20) == 0 ? 1 : 0)) + upTo(1, 99);
    }

    /** Tells the rows that are due, at times with a fault, and checks them. */
    private int[] rows() {
        List<Integer> rows = of(4) > 0 ? y.dueRows() : null;
        if (rows != null && y.count(8) == 0) {
            int fault = of(3) > 0 ? -1 : of(rows.size() + 1);
            int many = of(3) > 0 ? rows.size() : of(rows.size() + 1);
            for (int i = 0; i < many && made < CALLS - 1; i++) {
                int v = rows.get(i) + (i == fault ? 1 : 0);
                int[] both = both(name("tell", v), x.tell(v), y.tell(v));
                if (both[0] != both[1]) return both;
            }
        }
        return both("check()", x.check(), y.check());
    }

    /** Feeds a text, whole or with a fault, and makes it terms. */
    private int[] text(int clients) {
        if (y.count(9) > 0 && made < CALLS - 1) {
            int[] both = both(name("trim", 0), x.trim(0), y.trim(0));
            if (both[0] != both[1]) return both;
        }
        String s = "parts" + gap(true) + expression(3) + gap(true) + "rate" + gap(true) + expression(3);
        if (of(3) == 0) s = spoilt(s);
        if (s.length() > 120) s = s.substring(0, 120);
        for (int i = 0; i < s.length() && made < CALLS - 1; i += 12) {
            int a = four(s, i), b = four(s, i + 4), c = four(s, i + 8);
            int[] both = both(name("feed", a, b, c), x.feed(a, b, c), y.feed(a, b, c));
            if (both[0] != both[1]) return both;
        }
        if (made < CALLS - 1 && of(10) > 0) {
            int n = Math.min(s.length(), y.count(9));
            int[] both = both(name("trim", n), x.trim(n), y.trim(n));
            if (both[0] != both[1]) return both;
        }
        int client = some(clients), day = of(2) == 0 ? upTo(0, Math.min(20, today() + 1)) : upTo(0, 900);
        return both(name("terms", client, day) + " of <" + s + ">", x.terms(client, day), y.terms(client, day));
    }

    private static int four(String s, int at) {
        int v = 0;
        for (int i = at; i < at + 4; i++) v = v << 8 | (i < s.length() ? s.charAt(i) & 255 : ' ');
        return v;
    }

    private String gap(boolean due) {
        int many = of(5) == 0 ? of(3) : 0;
        return " ".repeat(due && of(15) > 0 ? many + 1 : many);
    }

    private String expression(int deep) {
        int pick = of(10);
        if (deep == 0 || pick < 3) return leaf();
        if (pick == 3) return "!" + gap(false) + expression(deep - 1);
        if (pick < 6) return "(" + gap(false) + expression(deep - 1) + gap(false) + ")";
        String sign = "|&<=>+-*/".charAt(of(9)) + "";
        return expression(deep - 1) + gap(false) + sign + gap(false) + expression(deep - 1);
    }

    private String leaf() {
        if (of(3) > 0) return "nrkcgwm".charAt(of(7)) + "";
        return "" + (of(4) == 0 ? of(100000) : of(12));
    }

    private String spoilt(String s) {
        StringBuilder t = new StringBuilder(s);
        for (int i = of(3); i >= 0; i--) {
            int at = of(t.length());
            int pick = of(6);
            if (t.length() == 0) return "";
            if (pick == 0) t.deleteCharAt(at);
            else if (pick == 1) t.insert(at, "()!<=>|&+-*/ 01abnrx\n".charAt(of(21)));
            else if (pick == 2) t.setCharAt(at, (char) of(256));
            else if (pick == 3) t.setLength(at);
            else if (pick == 4) t.insert(at, (of(2) == 0 ? "(" : "!").repeat(of(10)));
            else t.insert(at, "!(".repeat(of(10)));
        }
        return t.toString();
    }
}
