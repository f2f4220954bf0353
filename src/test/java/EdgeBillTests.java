/** Boundaries of promises 20 to 28: bills, retainers, trust, interest, contested entries. */
public final class EdgeBillTests {
    private static final int NO = Edge.NO, FULL = Edge.FULL, NONE = Edge.NONE;

    public static void main(String[] args) {
        billsRefused();
        entriesOfBills();
        fixed();
        nets();
        retainersOff();
        splits();
        greatest();
        about();
        owes();
        interest();
        retain();
        trust();
        draw();
        pay();
        payFull();
        contestRefused();
        cuts();
        cutsSplit();
        contestFull();
        contestElsewhere();
        like();
        middles();
        Edge.end(20, 28);
    }

    /** One lawyer at 10, so that an entry is worth its parts; one client, one plain matter. */
    private static Edge plain(Edge x) {
        return x.set("person(1, 10)", "client()", "matter(0, 0, 0)");
    }

    private static Edge fullTrust(Edge x, int client) {
        return x.times(100, "trust(" + client + ", 99999)").due("trust(" + client + ", 99)", 9999999);
    }

    private static void billsRefused() {
        Edge.test(20, "One more BILL: its number. BAD: matter, up (0 .. TODAY), down; FULL.", x -> {
            x.set("client()").bad("bill(0, 0, 0)").set("matter(0, 0, 0)").range("bill(?, 0, 0)", 0, 0).range("bill(0, ?, 0)", 0, 0);
            x.times(9, "matter(1, 0, 5)").range("bill(?, 0, 0)", 0, 9).set("days(1)").range("bill(0, ?, 0)", 0, 1);
            x.times(8, "days(100)").set("days(99)").range("bill(0, ?, 0)", 0, 900);
        });
        Edge.test(20, "DOWN (0 .. 100, told)", x -> plain(x).set("entry(0, 0, 0, 100, 0)").range("bill(0, 0, ?)", 0, 100));
        Edge.test(20, "A BILL (16 at most, numbered from 0)", x -> {
            plain(x).set("entry(0, 0, 0, 5, 0)");
            for (int i = 0; i < 16; i++) x.due("count(6)", i).due("bill(0, 0, 0)", i);
            x.set("entry(0, 0, 0, 5, 0)", "retain(0, 3)").refused("bill(0, 0, 0)", FULL).due("told(1, 8)", NONE).due("withdraw(1)", 1).due("count(6)", 16);
            x.bad("bill(1, 0, 0)", "bill(-1, 0, 0)", "bill(0, 1, 0)", "bill(0, -1, 0)", "bill(0, 0, 101)", "bill(0, 0, -1)").refused("bill(0, 0, 100)", FULL);
        });
    }

    private static void entriesOfBills() {
        Edge.test(20, "of all its ENTRIES KNOWN TODAY on that DAY or ahead of it that are in no BILL yet", x -> {
            plain(x).set("matter(0, 0, 0)", "days(9)");
            for (int day : new int[] {0, 4, 5, 6, 9}) x.set("entry(0, 0, " + day + ", " + (10 + day) + ", 0)");
            x.set("entry(0, 1, 0, 1, 0)").due("bill(0, 5, 0)", 0).due("about(0, 5)", 3).due("about(0, 2)", 39).dues("told(?, 8)", 0, 0, 0, NONE, NONE, NONE);
            x.due("bill(0, 5, 0)", 1).due("about(1, 5)", 0).due("about(1, 2)", 0).due("bill(0, 8, 0)", 2).due("about(2, 2)", 16);
            x.due("bill(0, 9, 0)", 3).due("about(3, 2)", 19).dues("told(?, 8)", 0, 0, 0, 2, 3, NONE);
        });
        Edge.test(20, "of all its ENTRIES KNOWN TODAY", x -> {
            plain(x).times(3, "entry(0, 0, 0, 7, 0)").set("withdraw(0)", "days(1)", "withdraw(1)", "bill(0, 1, 0)").due("about(0, 5)", 1).due("about(0, 2)", 7);
            x.dues("told(?, 8)", NONE, NONE, 0).dues("told(?, 9)", 0, 0, 7);
        });
        Edge.test(20, "what is CHARGED for them is as it is then", x -> {
            plain(x).set("entry(0, 0, 0, 7, 0)", "bill(0, 0, 0)").terms(0, 0, "parts n*2 rate 10").due("told(0, 9)", 7).due("worth(0, 0, 3)", 14).due("about(0, 2)", 7);
            x.set("entry(0, 0, 0, 7, 0)", "bill(0, 0, 0)").due("told(1, 9)", 14).due("about(1, 2)", 14);
        });
        Edge.test(20, "GROSS: what is CHARGED together", x -> {
            plain(x).set("matter(2, 0, 50)").times(3, "entry(0, 1, 0, 20, 0)").set("bill(1, 0, 0)").due("about(0, 2)", 50).dues("told(?, 9)", 20, 20, 10);
            x.set("entry(0, 1, 0, 20, 0)", "bill(1, 0, 0)").due("about(1, 2)", 0).due("about(1, 5)", 1);
        });
        Edge.test(20, "A BILL (16 at most, numbered from 0) of a MATTER, made TODAY, up to a DAY", x -> {
            plain(x).times(90, "entry(0, 0, 0, 1, 0)").set("days(3)", "bill(0, 0, 0)").due("about(0, 5)", 90).due("about(0, 2)", 90).due("about(0, 1)", 3);
        });
    }

    private static void fixed() {
        Edge.test(20, "of a FIXED one FEE, if it is its first BILL, else 0", x -> {
            plain(x).set("matter(1, 0, 500)", "matter(1, 0, 99999)", "matter(1, 0, 0)", "bill(0, 0, 0)", "entry(0, 1, 0, 9, 0)");
            x.due("bill(1, 0, 0)", 1).due("about(1, 2)", 500).due("about(1, 5)", 1).due("told(0, 9)", 0).due("bill(1, 0, 0)", 2).due("about(2, 2)", 0);
            x.due("bill(2, 0, 0)", 3).due("about(3, 2)", 99999).due("about(3, 5)", 0).due("bill(3, 0, 0)", 4).due("about(4, 2)", 0).due("bill(2, 0, 0)", 5).due("about(5, 2)", 0);
        });
    }

    private static void nets() {
        Edge.test(20, "NET: GROSS less DOWN (0 .. 100, told) hundredths of it (these cut: 101 with DOWN 50 is 51).", x -> {
            x.set("client()");
            int[][] rows = {{101, 50, 51}, {101, 0, 101}, {101, 100, 0}, {99, 1, 99}, {100, 1, 99}, {101, 1, 100}, {199, 1, 198}, {1, 99, 1}, {1, 100, 0}, {0, 50, 0},
                {2, 50, 1}, {3, 50, 2}, {99999, 99, 1000}, {99999, 100, 0}, {99999, 1, 99000}};
            for (int[] r : rows) {
                x.fork().set("matter(1, 0, " + r[0] + ")", "bill(0, 0, " + r[1] + ")").due("about(0, 2)", r[0]).due("about(0, 3)", r[2]).due("about(0, 6)", r[2]).due("owes(0, 0, 0)", r[2]);
            }
        });
    }

    private static void retainersOff() {
        Edge.test(20, "RETAINER of the MATTER goes off it, as far as it goes", x -> {
            x.set("client()", "matter(1, 0, 100)", "matter(1, 0, 100)");
            for (int coin : new int[] {1, 49, 50, 51, 99, 100, 101, 99999}) {
                int off = Math.min(coin, 100), half = Math.min(coin, 50);
                x.fork().set("retain(0, " + coin + ")", "bill(0, 0, 0)").due("about(0, 3)", 100).due("about(0, 4)", off).due("about(0, 6)", 100 - off).due("count(12)", coin - off);
                x.fork().set("retain(0, " + coin + ")", "bill(0, 0, 50)").due("about(0, 3)", 50).due("about(0, 4)", half).due("about(0, 6)", 50 - half).due("count(12)", coin - half);
                x.fork().set("retain(0, " + coin + ")", "bill(1, 0, 0)").due("about(0, 4)", 0).due("about(0, 6)", 100).due("count(12)", coin);
                x.fork().set("retain(0, " + coin + ")", "bill(0, 0, 100)").due("about(0, 4)", 0).due("count(12)", coin);
            }
            x.set("bill(0, 0, 0)", "retain(0, 30)").due("about(0, 4)", 0).due("owes(0, 0, 0)", 100).due("count(12)", 30);
        });
    }

    private static void splits() {
        Edge.test(20, "each PAYER rest times SHARE / all SHARES; what is left over 1 each to the first ones", x -> {
            x.times(3, "client()");
            int[][] even = {{0, 0, 0}, {1, 0, 0}, {1, 1, 0}, {1, 1, 1}, {2, 1, 1}, {2, 2, 1}, {2, 2, 2}};
            for (int rest = 0; rest < even.length; rest++) {
                Edge y = x.fork().set("matter(1, 0, " + rest + ")", "payers(0, 1, 101, 201)", "bill(0, 0, 0)").dues("owes(0, ?, 0)", even[rest]);
                y.due("about(0, 6)", rest);
                x.fork().set("matter(1, 0, " + rest + ")", "payers(0, 299, 99, 199)", "bill(0, 0, 0)").dues("owes(0, ?, 0)", even[rest][1], even[rest][2], even[rest][0]);
            }
            int[][] odd = {{1, 1, 0}, {2, 1, 1}, {99, 1, 98}, {100, 1, 99}, {101, 2, 99}, {199, 2, 197}, {200, 2, 198}, {99999, 1000, 98999}};
            for (int[] r : odd) x.fork().set("matter(1, 0, " + r[0] + ")", "payers(0, 1, 199, NONE)", "bill(0, 0, 0)").dues("owes(0, ?, 0)", r[1], r[2], 0);
        });
        Edge.test(20, "RETAINER of the MATTER goes off it, as far as it goes; the rest is SPLIT", x -> {
            x.times(2, "client()").set("matter(1, 0, 100)", "payers(0, 1, 102, NONE)", "retain(0, 20)", "bill(0, 0, 10)");
            x.due("about(0, 2)", 100).due("about(0, 3)", 90).due("about(0, 4)", 20).dues("owes(0, ?, 0)", 24, 46).due("about(0, 6)", 70);
        });
        Edge.test(20, "each PAYER rest times SHARE / all SHARES", x -> {
            x.set("client()", "matter(1, 0, 7)", "payers(0, 99, NONE, NONE)", "bill(0, 0, 0)").due("owes(0, 0, 0)", 7);
        });
    }

    /** Ninety entries of 240 parts at 9999: 21597840 coins; by 100 that is no int any more. */
    private static Edge mostCoin(Edge x) {
        x.set("person(0, 999)", "client()", "client()", "client()", "matter(0, 0, 0)").terms(0, 0, "parts 240 rate 9999");
        return x.times(90, "entry(0, 0, 0, 1, 0)");
    }

    private static void greatest() {
        Edge.test(20, "NET: GROSS less DOWN (0 .. 100, told) hundredths of it", x -> {
            mostCoin(x);
            x.fork().set("bill(0, 0, 0)").due("about(0, 2)", 21597840).due("about(0, 3)", 21597840);
            x.fork().set("bill(0, 0, 99)").due("about(0, 2)", 21597840).due("about(0, 3)", 215979);
            x.fork().set("bill(0, 0, 100)").due("about(0, 2)", 21597840).due("about(0, 3)", 0);
        });
        Edge.test(20, "each PAYER rest times SHARE / all SHARES", x -> {
            mostCoin(x).set("payers(0, 99, 101, 299)", "bill(0, 0, 0)").dues("owes(0, ?, 0)", 10744655, 108531, 10744654).due("about(0, 6)", 21597840);
        });
        Edge.test(22, "that times INTEREST (a rule) times DAYS beyond GRACE (a rule) behind the BILL / 36500", x -> {
            mostCoin(x).set("bill(0, 0, 0)", "rule(1, 100)", "rule(2, 0)").times(9, "days(100)").due("owes(0, 0, 1)", 53254947).due("owes(0, 0, 0)", 21597840);
            x.set("rule(2, 899)").due("owes(0, 0, 1)", 59172).set("rule(2, 900)").due("owes(0, 0, 1)", 0);
        });
        Edge.test(26, "as much as is owed", x -> {
            mostCoin(x).set("bill(0, 0, 0)").due("pay(0, 0, 99999)", 0).due("owes(0, 0, 0)", 21497841);
        });
    }

    private static void about() {
        Edge.test(21, "Of a BILL: what 0 MATTER, 1 its day, 2 GROSS, 3 NET, 4 what went off by RETAINER, 5 how many ENTRIES, 6 what all PAYERS OWE now. BAD.", x -> {
            plain(x).bad("about(0, 0)").set("days(4)", "matter(1, 0, 1000)", "entry(0, 1, 4, 9, 0)", "retain(1, 300)", "bill(1, 4, 10)");
            x.dues("about(0, ?)", 1, 4, 1000, 900, 300, 1, 600).range("about(?, 0)", 0, 0).range("about(0, ?)", 0, 6);
            x.set("pay(0, 0, 100)").dues("about(0, ?)", 1, 4, 1000, 900, 300, 1, 500).times(15, "bill(0, 0, 0)").range("about(?, 6)", 0, 15);
        });
        Edge.test(21, "6 what all PAYERS OWE now", x -> {
            x.times(3, "client()");
            for (int m = 0; m < 10; m++) x.set("matter(1, 0, " + (100 + 9 * m) + ")", "payers(" + m + ", 1, 102, 203)");
            for (int m = 0; m < 10; m++) x.set("bill(" + m + ", 0, 0)");
            for (int b = 0; b < 10; b++) x.due("about(" + b + ", 6)", 100 + 9 * b).due("about(" + b + ", 2)", 100 + 9 * b).due("about(" + b + ", 0)", b);
            x.set("pay(7, 2, 1)").due("about(7, 6)", 162).due("about(6, 6)", 154).due("about(8, 6)", 172);
        });
        Edge.test(21, "6 what all PAYERS OWE now", x -> {
            x.times(3, "client()").set("matter(1, 0, 100)", "payers(0, 1, 101, 201)", "bill(0, 0, 0)").due("about(0, 6)", 100);
            x.set("pay(0, 0, 34)").due("about(0, 6)", 66).set("trust(1, 50)", "draw(0, 1)").due("about(0, 6)", 33).set("pay(0, 2, 34)").due("about(0, 6)", 0);
        });
    }

    private static void owes() {
        Edge.test(22, "What a CLIENT OWES of a BILL (0 of others), without INTEREST (what 0), INTEREST TODAY (1). BAD.", x -> {
            plain(x).bad("owes(0, 0, 0)").set("bill(0, 0, 0)").range("owes(?, 0, 0)", 0, 0).range("owes(0, ?, 0)", 0, 0).range("owes(0, 0, ?)", 0, 1);
            x.times(4, "client()").range("owes(0, ?, 1)", 0, 4).times(15, "bill(0, 0, 0)").range("owes(?, 0, 1)", 0, 15);
        });
        Edge.test(22, "(0 of others)", x -> {
            x.times(3, "client()").set("matter(1, 0, 36500)", "payers(0, 101, NONE, NONE)", "bill(0, 0, 0)", "rule(2, 0)", "days(1)");
            x.dues("owes(0, ?, 0)", 0, 36500, 0).dues("owes(0, ?, 1)", 0, 8, 0);
        });
    }

    private static void interest() {
        Edge.test(22, "times DAYS beyond GRACE (a rule) behind the BILL", x -> {
            x.set("client()", "matter(1, 0, 36500)", "days(7)", "bill(0, 0, 0)").due("owes(0, 0, 1)", 0).set("days(29)").due("owes(0, 0, 1)", 0);
            x.set("days(1)").due("owes(0, 0, 1)", 0).set("days(1)").due("owes(0, 0, 1)", 8).set("days(1)").due("owes(0, 0, 1)", 16);
            x.set("rule(2, 32)").due("owes(0, 0, 1)", 0).set("rule(2, 31)").due("owes(0, 0, 1)", 8).set("rule(2, 0)").due("owes(0, 0, 1)", 256).set("rule(2, 900)").due("owes(0, 0, 1)", 0);
        });
        Edge.test(22, "that times INTEREST (a rule)", x -> {
            x.set("client()", "matter(1, 0, 36500)", "bill(0, 0, 0)", "rule(2, 0)", "days(1)", "rule(1, 0)").due("owes(0, 0, 1)", 0);
            x.set("rule(1, 1)").due("owes(0, 0, 1)", 1).set("rule(1, 100)").due("owes(0, 0, 1)", 100).set("pay(0, 0, 1)").due("owes(0, 0, 1)", 99);
            x.set("rule(1, 1)").due("owes(0, 0, 1)", 0).set("pay(0, 0, 36499)", "rule(1, 100)").due("owes(0, 0, 1)", 0).due("owes(0, 0, 0)", 0);
        });
        Edge.test(22, "INTEREST of what is owed", x -> {
            x.set("client()", "matter(1, 0, 99999)", "bill(0, 0, 0)", "rule(2, 0)", "rule(1, 100)").times(9, "days(100)").due("owes(0, 0, 1)", 246572).due("owes(0, 0, 0)", 99999);
        });
    }

    private static void retain() {
        Edge.test(23, "RETAINER of a MATTER is coin (1 .. 99999) more: all of it. BAD", x -> {
            x.set("client()").bad("retain(0, 1)").set("matter(0, 0, 0)").range("retain(0, ?)", 1, 99999).range("retain(?, 1)", 0, 0);
            x.times(9, "matter(0, 0, 0)").range("retain(?, 1)", 0, 9).due("retain(9, 5)", 5).due("retain(9, 99999)", 100004).due("retain(0, 7)", 7).due("count(12)", 100011);
        });
        Edge.test(23, "FULL: it would be above 999999.", x -> {
            x.set("client()", "matter(0, 0, 0)", "matter(1, 0, 1)").times(10, "retain(0, 99999)").refused("retain(0, 10)", FULL).refused("retain(0, 99999)", FULL);
            x.bad("retain(0, 0)", "retain(0, 100000)", "retain(2, 10)").due("retain(0, 9)", 999999).refused("retain(0, 1)", FULL).bad("retain(0, 0)").due("count(12)", 999999);
            x.due("retain(1, 99999)", 99999).set("bill(1, 0, 0)").due("retain(1, 1)", 99999);
        });
        Edge.test(23, "FULL: it would be above 999999.", x -> {
            x.set("client()", "matter(1, 0, 1)").times(10, "retain(0, 99999)").set("retain(0, 9)", "bill(0, 0, 0)").due("count(12)", 999998).refused("retain(0, 2)", FULL).due("retain(0, 1)", 999999);
        });
    }

    private static void trust() {
        Edge.test(24, "TRUST of a CLIENT is coin (0 .. 99999) more: all of it. BAD", x -> {
            x.bad("trust(0, 0)").set("client()").range("trust(0, ?)", 0, 99999).range("trust(?, 1)", 0, 0).times(4, "client()").range("trust(?, 1)", 0, 4);
            x.due("trust(4, 0)", 0).due("trust(4, 5)", 5).due("trust(4, 99999)", 100004).due("trust(0, 7)", 7).due("count(11)", 100011);
        });
        Edge.test(24, "FULL: it would be above 9999999.", x -> {
            x.times(2, "client()").times(100, "trust(1, 99999)").refused("trust(1, 100)", FULL).refused("trust(1, 99999)", FULL).due("trust(1, 98)", 9999998);
            x.refused("trust(1, 2)", FULL).due("trust(1, 1)", 9999999).refused("trust(1, 1)", FULL).due("trust(1, 0)", 9999999);
            x.bad("trust(1, -1)", "trust(1, 100000)", "trust(2, 1)").due("trust(0, 99999)", 99999).due("count(11)", 10099998);
        });
    }

    private static void draw() {
        Edge.test(25, "TRUST is DRAWN for a BILL: how much. BAD.", x -> {
            x.set("client()").bad("draw(0, 0)").set("matter(1, 0, 9)", "bill(0, 0, 0)", "trust(0, 5)").range("draw(?, 0)", 0, 0).range("draw(0, ?)", 0, 0);
            x.times(4, "client()").range("draw(0, ?)", 0, 4).times(15, "bill(0, 0, 0)").range("draw(?, 0)", 0, 15);
        });
        Edge.test(25, "as much as there is of both", x -> {
            x.set("client()", "matter(1, 0, 100)", "bill(0, 0, 0)");
            for (int coin : new int[] {0, 1, 99, 100, 101, 99999}) {
                int drawn = Math.min(coin, 100);
                x.fork().set("trust(0, " + coin + ")").due("draw(0, 0)", drawn).due("owes(0, 0, 0)", 100 - drawn).due("trust(0, 0)", coin - drawn).due("draw(0, 0)", 0);
            }
        });
        Edge.test(25, "it is never lent", x -> {
            x.times(3, "client()").set("matter(1, 0, 100)", "payers(0, 1, 101, NONE)", "bill(0, 0, 0)", "trust(1, 500)", "trust(2, 500)");
            x.due("draw(0, 0)", 0).due("owes(0, 0, 0)", 50).due("draw(0, 2)", 0).due("count(11)", 1000).due("about(0, 6)", 100).due("draw(0, 1)", 50).due("trust(1, 0)", 450).due("trust(2, 0)", 500);
        });
        Edge.test(25, "for what that CLIENT OWES of a BILL", x -> {
            x.set("client()", "matter(1, 0, 100)", "matter(1, 0, 70)", "bill(0, 0, 0)", "bill(1, 0, 0)", "trust(0, 120)");
            x.due("draw(1, 0)", 70).due("owes(0, 0, 0)", 100).due("draw(0, 0)", 50).due("owes(0, 0, 0)", 50).due("draw(1, 0)", 0).due("count(11)", 0);
        });
    }

    private static void pay() {
        Edge.test(26, "Coin (1 .. 99999) is PAID: how much of it went to TRUST. BAD", x -> {
            x.set("client()").bad("pay(0, 0, 1)").set("matter(1, 0, 9)", "bill(0, 0, 0)").range("pay(?, 0, 1)", 0, 0).range("pay(0, ?, 1)", 0, 0).range("pay(0, 0, ?)", 1, 99999);
            x.times(15, "bill(0, 0, 0)").range("pay(?, 0, 1)", 0, 15);
        });
        Edge.test(26, "as much as is owed; what is more goes to TRUST", x -> {
            x.set("client()", "matter(1, 0, 100)", "bill(0, 0, 0)");
            for (int coin : new int[] {1, 99, 100, 101, 99999}) {
                int more = Math.max(0, coin - 100);
                x.fork().due("pay(0, 0, " + coin + ")", more).due("owes(0, 0, 0)", 100 - (coin - more)).due("trust(0, 0)", more).due("pay(0, 0, 99999)", 99999 - 100 + coin - more);
            }
        });
        Edge.test(26, "NO: the CLIENT is no PAYER of it", x -> {
            x.times(5, "client()").set("matter(1, 0, 100)", "payers(0, 101, 301, NONE)", "bill(0, 0, 0)");
            for (int c : new int[] {0, 2, 4}) x.refused("pay(0, " + c + ", 1)", NO).bad("pay(0, " + c + ", 0)", "pay(0, " + c + ", 100000)", "pay(1, " + c + ", 1)");
            x.due("pay(0, 1, 1)", 0).due("pay(0, 3, 51)", 1).bad("pay(0, 5, 1)", "pay(0, -1, 1)");
        });
        Edge.test(26, "PAID may be to a BILL by a PAYER", x -> {
            x.times(3, "client()").set("matter(1, 0, 0)", "payers(0, 1, 101, 299)", "bill(0, 0, 0)").due("pay(0, 0, 5)", 5).due("pay(0, 1, 6)", 6).due("pay(0, 2, 7)", 7).due("count(11)", 18);
        });
    }

    private static void payFull() {
        Edge.test(26, "FULL: TRUST would be above 9999999.", x -> {
            x.times(2, "client()").set("matter(1, 0, 100)", "bill(0, 0, 0)");
            fullTrust(x, 0).refused("pay(0, 0, 101)", FULL).refused("pay(0, 0, 99999)", FULL).due("owes(0, 0, 0)", 100);
            x.bad("pay(0, 0, 100000)", "pay(0, 0, 0)", "pay(1, 0, 101)").due("pay(0, 0, 99)", 0).refused("pay(0, 0, 2)", FULL).due("pay(0, 0, 1)", 0).refused("pay(0, 0, 1)", FULL).due("count(11)", 9999999);
        });
        Edge.test(26, "FULL: TRUST would be above 9999999.", x -> {
            x.set("client()", "matter(1, 0, 100)", "bill(0, 0, 0)").times(100, "trust(0, 99999)").set("trust(0, 98)").refused("pay(0, 0, 102)", FULL).due("pay(0, 0, 101)", 1).due("trust(0, 0)", 9999999);
        });
        Edge.test(26, "NO: the CLIENT is no PAYER of it; FULL: TRUST would be above 9999999.", x -> {
            x.times(2, "client()").set("matter(1, 0, 100)", "bill(0, 0, 0)");
            fullTrust(x, 1).refused("pay(0, 1, 99999)", NO).bad("pay(0, 1, 100000)");
        });
    }

    /** Two matters with a bill each: entry 0 of 100 parts in the first one, entry 1 of so many in the other. */
    private static Edge two(Edge x, int other) {
        plain(x).set("client()", "matter(0, 0, 0)", "payers(0, 1, 101, NONE)", "entry(0, 0, 0, 100, 2)", "entry(0, 1, 0, " + other + ", 2)");
        return x.set("bill(0, 0, 0)", "bill(1, 0, 0)");
    }

    private static void contestRefused() {
        Edge.test(27, "BAD; NO: it is in no BILL, CONTESTED, there are no LIKE ones", x -> {
            plain(x).bad("contest(0)").set("matter(0, 0, 0)", "entry(0, 0, 0, 100, 2)", "entry(0, 1, 0, 40, 2)").refused("contest(0)", NO);
            x.set("bill(0, 0, 0)").refused("contest(0)", NO).refused("contest(1)", NO).set("bill(1, 0, 0)").range("contest(?)", 0, 1);
            x.due("contest(0)", 60).refused("contest(0)", NO).refused("contest(1)", NO).bad("contest(2)", "contest(-1)").due("told(0, 10)", 60).due("told(1, 10)", NONE);
        });
        Edge.test(27, "CONTESTED may be an ENTRY in a BILL once", x -> {
            two(x, 40).set("matter(0, 0, 0)", "entry(0, 2, 0, 30, 2)", "bill(2, 0, 0)").due("contest(0)", 70).refused("contest(0)", NO).due("owes(0, 0, 0)", 15);
            x.due("contest(2)", 0).refused("contest(2)", NO).due("told(2, 10)", 0).refused("contest(1)", NO);
        });
        Edge.test(27, "NO: it is in no BILL", x -> {
            two(x, 40).set("entry(0, 0, 0, 90, 2)", "entry(0, 0, 0, 90, 2)", "withdraw(3)").refused("contest(2)", NO).refused("contest(3)", NO).due("told(2, 10)", NONE);
        });
    }

    private static void cuts() {
        Edge.test(27, "If its COUNTED is more", x -> {
            int[][] rows = {{1, 99}, {2, 98}, {50, 50}, {99, 1}, {100, 0}, {101, 0}, {240, 0}};
            for (int[] r : rows) two(x.fork(), r[0]).due("contest(0)", r[1]).due("told(0, 10)", r[1]).due("about(0, 6)", 100 - r[1]).due("about(0, 2)", 100).due("about(0, 3)", 100);
        });
        Edge.test(27, "CUT is: what was CHARGED for it, less that times MIDDLE / COUNTED, cut", x -> {
            // 7 parts at 15 are 10; 10 * 2 / 7 is 2, 10 * 6 / 7 is 8
            x.set("person(1, 15)", "client()", "matter(0, 0, 0)", "matter(0, 0, 0)", "entry(0, 0, 0, 7, 0)", "bill(0, 0, 0)");
            x.fork().set("entry(0, 1, 0, 2, 0)", "bill(1, 0, 0)").due("contest(0)", 8).due("owes(0, 0, 0)", 2);
            x.fork().set("entry(0, 1, 0, 6, 0)", "bill(1, 0, 0)").due("contest(0)", 2).due("owes(0, 0, 0)", 8);
        });
        Edge.test(27, "CUT is: what was CHARGED for it, less that times MIDDLE / COUNTED, cut", x -> {
            x.set("person(1, 10)", "client()", "matter(2, 0, 30)", "matter(0, 0, 0)", "matter(1, 0, 70)", "entry(0, 0, 0, 100, 0)", "entry(0, 1, 0, 10, 0)", "entry(0, 2, 0, 100, 0)");
            x.set("bill(0, 0, 0)", "bill(1, 0, 0)", "bill(2, 0, 0)");
            x.fork().due("middle(2)", 10).due("contest(2)", 0).due("owes(2, 0, 0)", 70).due("contest(0)", 27).due("owes(0, 0, 0)", 3);
        });
        Edge.test(27, "(TERMS that came later may have changed COUNTED.)", x -> {
            two(x, 40);
            x.fork().terms(0, 0, "parts n*2 rate 10").due("middle(0)", 80).due("contest(0)", 60);
            x.fork().terms(0, 0, "parts n*(n<50) rate 10").due("middle(0)", 40).due("contest(0)", 0).due("told(0, 10)", 0);
            x.fork().terms(0, 0, "parts n*(n>50) rate 10").refused("contest(0)", NO).due("told(0, 10)", NONE);
            x.fork().terms(0, 0, "parts 240*(n>50)+(n<50) rate 10").due("contest(0)", 100).due("owes(0, 0, 0)", 0);
            x.fork().terms(0, 0, "parts 41-(n<50) rate 10").due("contest(0)", 3).due("owes(0, 0, 0)", 48).due("owes(0, 1, 0)", 49);
        });
    }

    private static void cutsSplit() {
        Edge.test(27, "CUT is SPLIT as the MATTER's SHARES are, each part goes off what the PAYER OWES of the BILL, and what is more than that to the PAYER's TRUST", x -> {
            two(x, 1);
            x.fork().due("contest(0)", 99).due("owes(0, 0, 0)", 0).due("owes(0, 1, 0)", 1).due("count(11)", 0);
            x.fork().set("pay(0, 0, 1)").due("contest(0)", 99).due("owes(0, 0, 0)", 0).due("owes(0, 1, 0)", 1).due("trust(0, 0)", 1).due("trust(1, 0)", 0);
            x.fork().set("pay(0, 1, 1)").due("contest(0)", 99).due("owes(0, 1, 0)", 0).due("trust(1, 0)", 0).due("trust(0, 0)", 0);
            x.fork().set("pay(0, 1, 2)").due("contest(0)", 99).due("owes(0, 1, 0)", 0).due("trust(1, 0)", 1).due("trust(0, 0)", 0);
            x.fork().set("pay(0, 0, 50)", "pay(0, 1, 50)").due("contest(0)", 99).due("trust(0, 0)", 50).due("trust(1, 0)", 49).due("about(0, 6)", 0);
        });
        Edge.test(27, "and what is more than that to the PAYER's TRUST", x -> {
            plain(x).set("matter(0, 0, 0)", "entry(0, 0, 0, 100, 2)", "entry(0, 1, 0, 40, 2)", "retain(0, 70)", "bill(0, 0, 50)", "bill(1, 0, 0)");
            x.due("owes(0, 0, 0)", 0).due("about(0, 4)", 50).due("contest(0)", 60).due("trust(0, 0)", 60).due("count(12)", 20);
        });
        Edge.test(27, "CUT is SPLIT as the MATTER's SHARES are", x -> {
            plain(x).times(2, "client()").set("matter(0, 0, 0)", "payers(0, 299, 1, 101)", "entry(0, 0, 0, 101, 2)", "entry(0, 1, 0, 99, 2)", "bill(0, 0, 0)", "bill(1, 0, 0)");
            x.dues("owes(0, ?, 0)", 1, 1, 99).due("contest(0)", 2).dues("owes(0, ?, 0)", 1, 1, 97).due("count(11)", 0);
        });
    }

    private static void contestFull() {
        Edge.test(27, "FULL: a TRUST would be above 9999999.", x -> {
            two(x, 1).set("pay(0, 0, 1)", "pay(0, 1, 50)");
            fullTrust(x.fork(), 0).refused("contest(0)", FULL).due("told(0, 10)", NONE).due("owes(0, 0, 0)", 49).due("trust(1, 0)", 0);
            fullTrust(x.fork(), 1).refused("contest(0)", FULL).due("owes(0, 0, 0)", 49).due("trust(0, 0)", 0).bad("contest(2)");
            x.fork().times(100, "trust(0, 99999)").set("trust(0, 98)").due("contest(0)", 99).due("trust(0, 0)", 9999999).due("trust(1, 0)", 49);
            x.fork().times(100, "trust(1, 99999)").set("trust(1, 50)").due("contest(0)", 99).due("trust(1, 0)", 9999999).due("trust(0, 0)", 1);
            x.fork().times(100, "trust(1, 99999)").set("trust(1, 51)").refused("contest(0)", FULL).due("trust(1, 0)", 9999951);
        });
        Edge.test(27, "FULL: a TRUST would be above 9999999.", x -> {
            fullTrust(two(x, 1), 0).due("contest(0)", 99).due("trust(0, 0)", 9999999).due("contest(1)", NO);
        });
        Edge.test(27, "FULL: a TRUST would be above 9999999.", x -> {
            fullTrust(two(x, 240).set("pay(0, 0, 50)"), 0).due("contest(0)", 0).refused("contest(0)", NO).due("told(0, 10)", 0);
        });
        Edge.test(27, "there are no LIKE ones; FULL: a TRUST would be above 9999999.", x -> {
            fullTrust(two(x, 1).set("pay(0, 0, 50)", "contest(1)"), 0).refused("contest(0)", NO).bad("contest(2)");
        });
    }

    private static void contestElsewhere() {
        // matter 7 has other payers than the ones ahead of it, and its bill is the last of five
        Edge.test(27, "CUT is SPLIT as the MATTER's SHARES are, each part goes off what the PAYER OWES of the BILL", x -> {
            plain(x).times(4, "client()").times(7, "matter(0, 0, 0)").set("payers(7, 403, 102, 305)", "entry(0, 0, 0, 50, 2)", "entry(0, 7, 0, 100, 2)");
            for (int m : new int[] {0, 1, 2, 3, 7}) x.set("bill(" + m + ", 0, 0)");
            x.dues("owes(4, ?, 0)", 0, 20, 0, 50, 30).due("about(4, 6)", 100).due("about(0, 6)", 50).due("about(3, 6)", 0);
            x.fork().due("contest(1)", 50).dues("owes(4, ?, 0)", 0, 10, 0, 25, 15).due("about(4, 6)", 50).due("owes(0, 0, 0)", 50).due("count(11)", 0);
            x.fork().set("pay(4, 3, 26)").due("contest(1)", 50).dues("owes(4, ?, 0)", 0, 10, 0, 0, 15).due("trust(3, 0)", 1).due("count(11)", 1);
            fullTrust(x.fork().set("pay(4, 3, 26)"), 3).refused("contest(1)", FULL).set("pay(4, 1, 11)").refused("contest(1)", FULL);
            fullTrust(x.fork().set("pay(4, 3, 25)"), 3).due("contest(1)", 50).dues("owes(4, ?, 0)", 0, 10, 0, 0, 15);
            fullTrust(x.fork().set("pay(4, 4, 16)"), 4).refused("contest(1)", FULL);
            fullTrust(x.fork().set("pay(4, 1, 11)"), 1).refused("contest(1)", FULL);
            fullTrust(x.fork().set("pay(4, 1, 11)"), 0).due("contest(1)", 50).due("trust(1, 0)", 1);
        });
    }

    private static void like() {
        String rule = "LIKE ones are ENTRIES in other BILLS, of the same CODE and a PERSON of the same KIND, not CONTESTED, with COUNTED above 0 (as they are now)";
        Edge.test(28, rule, x -> {
            for (int k = 0; k <= 3; k++) x.set("person(" + k + ", 10)");
            x.set("client()", "matter(0, 0, 0)", "matter(0, 0, 0)", "matter(0, 0, 0)");
            for (int k = 0; k <= 3; k++) x.set("entry(" + k + ", 0, 0, " + (50 + k) + ", 1)");
            x.set("bill(0, 0, 0)");
            for (int k = 0; k <= 3; k++) {
                Edge y = x.fork().set("entry(" + k + ", 1, 0, 9, 1)", "bill(1, 0, 0)");
                for (int e = 0; e <= 3; e++) y.due("middle(" + e + ")", e == k ? 9 : NO);
                y.due("middle(4)", 50 + k);
            }
            for (int code : new int[] {0, 2, 5}) x.fork().set("entry(0, 1, 0, 9, " + code + ")", "bill(1, 0, 0)").refused("middle(0)", NO).refused("middle(4)", NO);
            x.fork().set("entry(0, 0, 0, 9, 1)").refused("middle(0)", NO).set("bill(0, 0, 0)").due("middle(0)", 9).due("middle(4)", 50);
            x.fork().set("entry(0, 1, 0, 9, 1)", "entry(0, 2, 0, 9, 1)").refused("middle(0)", NO).set("bill(1, 0, 0)").due("middle(0)", 9);
        });
        Edge.test(28, "ENTRIES in other BILLS", x -> {
            plain(x).times(3, "entry(0, 0, 0, 9, 1)").set("bill(0, 0, 0)").refused("middle(0)", NO).refused("contest(1)", NO);
        });
        Edge.test(28, "not CONTESTED", x -> {
            two(x, 40).set("matter(0, 0, 0)", "entry(0, 2, 0, 60, 2)", "bill(2, 0, 0)").due("middle(0)", 40).due("contest(1)", 0).due("middle(0)", 60).due("middle(1)", 60);
            x.due("contest(2)", 0).refused("middle(0)", NO).due("middle(2)", 100);
        });
        Edge.test(28, "with COUNTED above 0 (as they are now)", x -> {
            two(x, 40).set("matter(0, 0, 0)", "entry(0, 2, 0, 60, 2)", "bill(2, 0, 0)").due("middle(0)", 40).terms(0, 0, "parts n-40 rate 9").due("middle(0)", 20);
            x.terms(0, 0, "parts n-39 rate 9").due("middle(0)", 1).terms(0, 0, "parts n-60 rate 9").refused("middle(0)", NO).refused("contest(0)", NO);
        });
    }

    private static void middles() {
        Edge.test(28, "MIDDLE for an ENTRY in a BILL. BAD; NO: it is in none, there are no LIKE ones.", x -> {
            plain(x).bad("middle(0)", "middle(-1)").set("matter(0, 0, 0)", "entry(0, 0, 0, 9, 0)").refused("middle(0)", NO).set("bill(0, 0, 0)").refused("middle(0)", NO);
            x.set("entry(0, 1, 0, 9, 0)").refused("middle(1)", NO).set("bill(1, 0, 0)").range("middle(?)", 0, 1);
        });
        Edge.test(28, "by COUNTED, the MIDDLE (of an even number the lesser one of both)", x -> {
            plain(x).set("matter(0, 0, 0)", "entry(0, 0, 0, 9, 0)", "bill(0, 0, 0)");
            int[] told = {70, 20, 60, 20, 10, 240, 1};
            int[] middle = {70, 20, 60, 20, 20, 20, 20};
            for (int i = 0; i < told.length; i++) x.set("entry(0, 1, 0, " + told[i] + ", 0)", "bill(1, 0, 0)").due("middle(0)", middle[i]);
        });
        Edge.test(28, "by COUNTED, the MIDDLE (of an even number the lesser one of both)", x -> {
            plain(x).set("matter(0, 0, 0)", "entry(0, 0, 0, 9, 0)", "bill(0, 0, 0)");
            for (int n = 89; n >= 1; n--) x.set("entry(0, 1, 0, " + n + ", 0)");
            x.set("bill(1, 0, 0)").due("middle(0)", 45).due("middle(1)", 9).due("contest(0)", 0);
        });
    }
}
