/** Boundaries of promises 1 to 10: people, clients, matters, payers, walls, days, rules. */
public final class EdgePeopleTests {
    private static final int BAD = Edge.BAD, NO = Edge.NO, FULL = Edge.FULL, NOTHING = Edge.NOTHING;

    public static void main(String[] args) {
        newObject();
        people();
        kindsOfPeople();
        clients();
        matters();
        kindsOfMatters();
        payersTold();
        payersRefused();
        walls();
        days();
        rules();
        Edge.end(1, 10);
    }

    private static void newObject() {
        Edge.test(1, "`HourHouse()`: Nobody.", x -> {
            x.dues("count(?)", 0, 0, 0, 0, 0, 0, 0, 0, 0, 0, 0, 0, 0);
            x.bad("is(0, 0)", "matter(0, 0, 0)", "isOf(0, 0)", "payers(0, 1, NONE, NONE)", "wall(0, 0, 1)");
            x.bad("entry(0, 0, 0, 1, 0)", "withdraw(0)", "door(0, 0, 1)", "written(0, 0, 0, 0)", "told(0, 0)", "worth(0, 0, 0)");
            x.bad("terms(0, 0)", "bill(0, 0, 0)", "about(0, 0)", "owes(0, 0, 0)", "retain(0, 1)", "trust(0, 0)", "draw(0, 0)");
            x.bad("pay(0, 0, 1)", "contest(0)", "middle(0)", "stage(0, 1)", "foretold(0, 0)", "task(0, 1, 0)", "free(0, 0)");
            x.bad("planned(1, 0)", "trim(1)");
        });
        Edge.test(1, "`HourHouse()`: Nobody.", x -> x.due("clear()", 0).due("plan(1)", 0).due("check()", 0).due("trim(0)", 0));
        Edge.test(1, "TODAY is 0 at first", x -> x.due("count(10)", 0).due("keep()", 0).due("days(1)", 1));
        Edge.test(1, "or MISSING (at first)", x -> {
            x.refused("lay(0)", NOTHING).refused("lay(1)", NOTHING).refused("mark(0, 0, 1)", NOTHING).refused("mark(1, 0, 1)", NOTHING);
            x.refused("copy(0, 0, 0, 0, 0)", NOTHING).refused("copy(1, 0, 1, 0, 0)", NOTHING);
        });
        Edge.test(1, "RULES: 0 HOLDS (0 .. 240; 120 at first), 1 INTEREST (0 .. 100; 8), 2 GRACE (0 .. 900; 30).", x -> {
            x.due("rule(0, 0)", 120).due("rule(1, 0)", 8).due("rule(2, 0)", 30);
        });
        Edge.test(1, "NO: there is none.", x -> x.refused("back()", NO));
        Edge.test(1, "One more PERSON: the number.", x -> {
            x.due("person(0, 1)", 0).due("client()", 0).due("matter(0, 0, 0)", 0).due("entry(0, 0, 0, 1, 0)", 0);
            x.due("bill(0, 0, 0)", 0).due("task(0, 1, 0)", 0).due("door(0, 0, 1)", 1).due("tell(0)", 1);
        });
    }

    private static void people() {
        Edge.test(2, "KINDS 0 CLERK, 1 LAWYER, 2 PARTNER, under LAWYER, 3 TEMP", x -> x.range("person(?, 5)", 0, 3));
        Edge.test(2, "a RATE 1 .. 999 (coins for ten PARTS)", x -> x.range("person(0, ?)", 1, 999));
        Edge.test(2, "a RATE 1 .. 999 (coins for ten PARTS)", x -> {
            x.set("person(0, 1)", "person(0, 999)", "client()", "matter(0, 0, 0)");
            x.set("entry(0, 0, 0, 10, 0)", "entry(1, 0, 0, 10, 0)", "entry(0, 0, 0, 9, 0)", "entry(1, 0, 0, 1, 0)");
            x.due("worth(0, 0, 2)", 1).due("worth(1, 0, 2)", 999).due("worth(2, 0, 2)", 0).due("worth(3, 0, 2)", 99);
            x.due("worth(0, 0, 1)", 1).due("worth(1, 0, 1)", 999);
        });
        Edge.test(2, "PEOPLE, 8 at most, numbered from 0", x -> {
            for (int i = 0; i < 8; i++) x.due("count(0)", i).due("person(" + i % 4 + ", 9)", i);
            x.refused("person(0, 9)", FULL).refused("person(3, 999)", FULL).due("count(0)", 8);
        });
        Edge.test(2, "One more PERSON: the number. BAD; FULL.", x -> {
            for (int i = 0; i < 8; i++) x.set("person(0, 9)");
            x.bad("person(4, 9)", "person(-1, 9)", "person(0, 0)", "person(0, 1000)", "person(MIN, MAX)");
            x.refused("person(0, 1)", FULL);
        });
    }

    private static void kindsOfPeople() {
        Edge.test(3, "2 PARTNER, under LAWYER, 3 TEMP (all are CLERKS)", x -> {
            x.set("person(0, 1)", "person(1, 1)", "person(2, 1)", "person(3, 1)");
            x.dues("is(0, ?)", 1, 0, 0, 0).dues("is(1, ?)", 1, 1, 0, 0).dues("is(2, ?)", 1, 1, 1, 0).dues("is(3, ?)", 1, 0, 0, 1);
        });
        Edge.test(3, "Whether a PERSON is of a KIND: 1, 0. BAD.", x -> {
            x.bad("is(0, 0)", "is(-1, 0)").set("person(2, 1)");
            x.range("is(?, 0)", 0, 0).range("is(0, ?)", 0, 3).set("person(0, 1)").range("is(?, 0)", 0, 1);
            x.times(6, "person(1, 1)").range("is(?, 1)", 0, 7);
        });
    }

    private static void clients() {
        Edge.test(4, "CLIENTS, 5 at most.", x -> {
            for (int i = 0; i < 5; i++) x.due("count(1)", i).due("client()", i);
            x.refused("client()", FULL).refused("client()", FULL).due("count(1)", 5);
        });
        Edge.test(4, "One more CLIENT: the number. FULL.", x -> {
            x.set("client()").due("trust(0, 0)", 0).bad("trust(1, 0)").due("client()", 1).due("trust(1, 0)", 0);
        });
    }

    private static void matters() {
        Edge.test(5, "KINDS 0 MATTER, 1 FIXED, 2 CAPPED, 3 TRIAL", x -> x.set("client()").range("matter(?, 0, 5)", 0, 3));
        Edge.test(5, "a FEE 0 .. 99999", x -> x.set("client()").range("matter(0, 0, ?)", 0, 99999));
        Edge.test(5, "a FEE 0 .. 99999", x -> {
            x.set("client()", "matter(1, 0, 0)", "matter(1, 0, 99999)", "bill(0, 0, 0)", "bill(1, 0, 0)");
            x.due("about(0, 2)", 0).due("about(1, 2)", 99999);
        });
        Edge.test(5, "MATTERS, 10 at most, each of a CLIENT", x -> {
            x.bad("matter(0, 0, 0)").set("client()").range("matter(0, ?, 0)", 0, 0);
            x.times(4, "client()").range("matter(0, ?, 0)", 0, 4);
            for (int i = 0; i < 10; i++) x.due("count(2)", i).due("matter(" + i % 4 + ", " + i % 5 + ", 0)", i);
            x.refused("matter(0, 0, 0)", FULL).refused("matter(3, 4, 99999)", FULL).due("count(2)", 10);
        });
        Edge.test(5, "One more MATTER: its number. BAD; FULL.", x -> {
            x.set("client()").times(10, "matter(0, 0, 0)");
            x.bad("matter(4, 0, 0)", "matter(-1, 0, 0)", "matter(0, 1, 0)", "matter(0, -1, 0)", "matter(0, 0, -1)", "matter(0, 0, 100000)");
        });
    }

    private static void kindsOfMatters() {
        Edge.test(6, "2 CAPPED, 3 TRIAL, under CAPPED (all are MATTERS)", x -> {
            x.set("client()", "matter(0, 0, 1)", "matter(1, 0, 1)", "matter(2, 0, 1)", "matter(3, 0, 1)");
            x.dues("isOf(0, ?)", 1, 0, 0, 0).dues("isOf(1, ?)", 1, 1, 0, 0).dues("isOf(2, ?)", 1, 0, 1, 0).dues("isOf(3, ?)", 1, 0, 1, 1);
        });
        Edge.test(6, "Whether a MATTER is of a KIND: 1, 0. BAD.", x -> {
            x.bad("isOf(0, 0)", "isOf(-1, 0)").set("client()", "matter(3, 0, 0)");
            x.range("isOf(?, 0)", 0, 0).range("isOf(0, ?)", 0, 3).times(9, "matter(1, 0, 0)").range("isOf(?, 1)", 0, 9);
        });
    }

    private static Edge fiveClients(Edge x) {
        return x.set("person(1, 10)").times(5, "client()").set("matter(1, 2, 100)", "matter(1, 2, 100)");
    }

    private static void payersTold() {
        Edge.test(7, "(at first its CLIENT alone, with 1)", x -> {
            fiveClients(x).set("bill(0, 0, 0)").due("owes(0, 2, 0)", 100);
            for (int c : new int[] {0, 1, 3, 4}) x.due("owes(0, " + c + ", 0)", 0).refused("pay(0, " + c + ", 1)", NO);
            x.due("pay(0, 2, 1)", 0);
        });
        Edge.test(7, "PAYERS of a MATTER: CLIENTS, 3 at most, in order, with SHARES 1 .. 99", x -> {
            fiveClients(x).due("payers(0, 401, 1, 101)", 3).set("bill(0, 0, 0)");
            x.dues("owes(0, ?, 0)", 33, 33, 0, 0, 34);
            x.due("payers(1, 1, 401, 101)", 3).set("bill(1, 0, 0)");
            x.dues("owes(1, ?, 0)", 34, 33, 0, 0, 33);
        });
        Edge.test(7, "with SHARES 1 .. 99", x -> {
            // 100 * 1 / 199 is 0, 100 * 99 / 199 is 49 each, 2 are left over
            fiveClients(x).due("payers(0, 1, 199, 499)", 3).set("bill(0, 0, 0)").dues("owes(0, ?, 0)", 1, 50, 0, 0, 49);
        });
        Edge.test(7, "each told as 100 * CLIENT and SHARE", x -> {
            fiveClients(x);
            for (int client = 0; client < 5; client++) {
                int other = 100 * ((client + 1) % 5) + 7, third = 100 * ((client + 2) % 5) + 7;
                for (int share : new int[] {1, 99}) {
                    int told = 100 * client + share;
                    x.fork().due("payers(0, " + told + ", NONE, NONE)", 1);
                    x.fork().due("payers(0, " + told + ", " + other + ", NONE)", 2);
                    x.fork().due("payers(0, " + other + ", " + told + ", NONE)", 2);
                    x.fork().due("payers(0, " + other + ", " + third + ", " + told + ")", 3);
                }
            }
        });
        Edge.test(7, "PAYERS of a MATTER: SHARES of up to three CLIENTS", x -> {
            fiveClients(x).due("payers(0, 1, 101, 201)", 3).due("payers(0, 301, NONE, NONE)", 1).set("bill(0, 0, 0)");
            x.dues("owes(0, ?, 0)", 0, 0, 0, 100, 0).refused("pay(0, 1, 1)", NO).due("about(0, 6)", 100);
        });
        Edge.test(7, "PAYERS of a MATTER: SHARES of up to three CLIENTS", x -> {
            // payers that are no more have no share
            fiveClients(x).set("payers(0, 50, 150, 299)");
            x.fork().due("payers(0, 101, 1, NONE)", 2).set("bill(0, 0, 0)").dues("owes(0, ?, 0)", 50, 50, 0, 0, 0).due("about(0, 6)", 100);
            x.fork().due("payers(0, 401, NONE, NONE)", 1).set("bill(0, 0, 0)").dues("owes(0, ?, 0)", 0, 0, 0, 0, 100).due("about(0, 6)", 100);
            x.fork().due("payers(0, 101, 1, NONE)", 2).due("payers(0, 301, NONE, NONE)", 1).set("bill(0, 0, 0)").due("about(0, 6)", 100).refused("pay(0, 0, 1)", NO);
        });
        Edge.test(7, "PAYERS of a MATTER: CLIENTS, 3 at most, in order, with SHARES 1 .. 99", x -> {
            // each matter has payers of its own
            x.times(5, "client()");
            for (int m = 0; m < 10; m++) {
                x.set("matter(1, " + m % 5 + ", 1000)", "payers(" + m + ", " + (100 * (m % 5) + 1 + m) + ", " + (100 * ((m + 1) % 5) + 20) + ", " + (100 * ((m + 3) % 5) + 29 - m) + ")");
            }
            for (int m = 9; m >= 0; m--) x.due("bill(" + m + ", 0, 0)", 9 - m);
            for (int m = 0; m < 10; m++) {
                int[] due = new int[5];
                due[m % 5] = 20 * (1 + m);
                due[(m + 1) % 5] = 400;
                due[(m + 3) % 5] = 20 * (29 - m);
                x.dues("owes(" + (9 - m) + ", ?, 0)", due);
            }
        });
    }

    private static void payersRefused() {
        Edge.test(7, "PAYERS of a MATTER: CLIENTS, 3 at most, in order, with SHARES 1 .. 99", x -> {
            fiveClients(x);
            for (int share : new int[] {0, 100, 200, 300, 400, 500, 501, 599, 600, -1, -99, -100, -101, Edge.MIN, Edge.MAX, -1000000004, -1000000006}) {
                x.bad("payers(0, " + share + ", NONE, NONE)", "payers(0, " + share + ", 1, NONE)");
                x.bad("payers(0, 1, " + share + ", NONE)", "payers(0, 1, " + share + ", 201)", "payers(0, 1, 101, " + share + ")");
            }
        });
        Edge.test(7, "each told as 100 * CLIENT and SHARE", x -> {
            x.set("client()", "matter(0, 0, 0)").due("payers(0, 99, NONE, NONE)", 1).bad("payers(0, 101, NONE, NONE)", "payers(0, 1, 101, NONE)");
            x.set("client()").due("payers(0, 101, NONE, NONE)", 1).bad("payers(0, 201, NONE, NONE)");
        });
        Edge.test(7, "BAD: the first is NONE", x -> {
            fiveClients(x).bad("payers(0, NONE, NONE, NONE)", "payers(0, NONE, 1, NONE)", "payers(0, NONE, 1, 101)", "payers(0, NONE, NONE, 1)");
        });
        Edge.test(7, "one behind a NONE is not", x -> {
            fiveClients(x).bad("payers(0, 1, NONE, 101)", "payers(0, 1, NONE, 1)").due("payers(0, 1, NONE, NONE)", 1).due("payers(0, 1, 101, NONE)", 2);
        });
        Edge.test(7, "a CLIENT twice", x -> {
            fiveClients(x);
            for (int client = 0; client < 500; client += 100) {
                int a = client + 1, b = client + 99, other = (client + 100) % 500 + 50;
                x.bad("payers(0, " + a + ", " + b + ", NONE)", "payers(0, " + a + ", " + a + ", NONE)");
                x.bad("payers(0, " + a + ", " + b + ", " + other + ")", "payers(0, " + b + ", " + other + ", " + a + ")");
                x.bad("payers(0, " + other + ", " + a + ", " + b + ")", "payers(0, " + a + ", " + a + ", " + a + ")");
                x.bad("payers(0, " + a + ", " + other + ", " + b + ")", "payers(0, " + other + ", " + b + ", " + a + ")", "payers(0, " + b + ", " + a + ", NONE)");
            }
            x.due("payers(0, 99, 101, NONE)", 2).due("payers(0, 1, 199, 201)", 3);
        });
        Edge.test(7, "PAYERS of a MATTER: SHARES of up to three CLIENTS", x -> {
            x.set("client()").bad("payers(0, 1, NONE, NONE)").set("matter(0, 0, 0)").range("payers(?, 1, NONE, NONE)", 0, 0);
            x.times(9, "matter(0, 0, 0)").range("payers(?, 1, NONE, NONE)", 0, 9);
        });
        Edge.test(7, "NO: it has a BILL.", x -> {
            fiveClients(x).set("payers(0, 101, 1, NONE)", "bill(0, 0, 0)").refused("payers(0, 1, NONE, NONE)", NO);
            x.refused("payers(0, 101, 1, NONE)", NO).due("payers(1, 301, NONE, NONE)", 1);
            x.set("pay(0, 0, 50)", "pay(0, 1, 50)").refused("payers(0, 201, NONE, NONE)", NO);
            x.bad("payers(0, 0, NONE, NONE)", "payers(0, NONE, NONE, NONE)", "payers(0, 1, NONE, 101)", "payers(0, 1, 2, NONE)", "payers(2, 1, NONE, NONE)");
        });
    }

    private static void walls() {
        Edge.test(8, "stands (on 1), or not (0): what it was. BAD.", x -> {
            x.small().range("wall(0, 0, ?)", 0, 1).due("wall(0, 0, 0)", 0).due("wall(0, 0, 1)", 0).due("wall(0, 0, 1)", 1);
            x.bad("wall(0, 0, 2)", "wall(0, 0, -1)").due("wall(0, 0, 0)", 1).due("wall(0, 0, 0)", 0);
        });
        Edge.test(8, "A WALL between a PERSON and a MATTER", x -> {
            x.set("person(0, 1)", "client()").bad("wall(0, 0, 1)").set("matter(0, 0, 0)");
            x.range("wall(?, 0, 1)", 0, 0).range("wall(0, ?, 1)", 0, 0);
            x.times(7, "person(1, 1)").times(9, "matter(1, 0, 0)").range("wall(?, 9, 1)", 0, 7).range("wall(7, ?, 1)", 0, 9);
        });
        Edge.test(8, "A WALL may stand between a PERSON and a MATTER.", x -> {
            // a matter that comes later has no walls, and leaves those of the others standing
            x.set("client()").times(8, "person(0, 1)");
            for (int m = 0; m < 10; m++) {
                x.set("matter(0, 0, 0)");
                for (int p = 0; p < 8; p++) x.due("wall(" + p + ", " + m + ", " + (p + m) % 2 + ")", 0);
            }
            for (int m = 0; m < 10; m++) {
                for (int p = 0; p < 8; p++) x.due("wall(" + p + ", " + m + ", 0)", (p + m) % 2);
            }
        });
        Edge.test(8, "A WALL may stand between a PERSON and a MATTER.", x -> {
            x.set("client()").times(8, "person(0, 1)").times(10, "matter(0, 0, 0)");
            x.due("wall(7, 9, 1)", 0).due("wall(0, 0, 1)", 0);
            for (int p = 0; p < 8; p++) {
                for (int m = 0; m < 10; m++) x.due("wall(" + p + ", " + m + ", 0)", p == 7 && m == 9 || p == 0 && m == 0 ? 1 : 0);
            }
        });
    }

    private static void days() {
        Edge.test(9, "n (1 .. 100) DAYS go: TODAY.", x -> x.range("days(?)", 1, 100).due("days(1)", 1).due("days(100)", 101));
        Edge.test(9, "BAD: also if it would be above 900.", x -> {
            x.times(8, "days(100)").due("count(10)", 800).range("days(?)", 1, 100);
            x.due("days(1)", 801).range("days(?)", 1, 99).bad("days(100)").due("days(98)", 899).range("days(?)", 1, 1);
            x.due("days(1)", 900).bad("days(1)", "days(100)", "days(0)", "days(MAX)", "days(MIN)").due("count(10)", 900);
        });
        Edge.test(9, "DAYS 0 .. 900", x -> x.times(9, "days(100)").due("count(10)", 900).bad("days(1)"));
    }

    private static void rules() {
        Edge.test(10, "A RULE becomes v: what it was. BAD.", x -> x.range("rule(?, 5)", 0, 2));
        Edge.test(10, "0 HOLDS (0 .. 240; 120 at first)", x -> {
            x.range("rule(0, ?)", 0, 240).due("rule(0, 240)", 120).due("rule(0, 0)", 240).due("rule(0, 1)", 0).bad("rule(0, 241)").due("rule(0, 2)", 1);
        });
        Edge.test(10, "1 INTEREST (0 .. 100; 8)", x -> {
            x.range("rule(1, ?)", 0, 100).due("rule(1, 100)", 8).due("rule(1, 0)", 100).due("rule(1, 1)", 0).bad("rule(1, 101)").due("rule(1, 2)", 1);
        });
        Edge.test(10, "2 GRACE (0 .. 900; 30)", x -> {
            x.range("rule(2, ?)", 0, 900).due("rule(2, 900)", 30).due("rule(2, 0)", 900).due("rule(2, 1)", 0).bad("rule(2, 901)").due("rule(2, 2)", 1);
        });
        Edge.test(10, "A RULE becomes v: what it was. BAD.", x -> {
            x.set("rule(0, 1)", "rule(1, 2)", "rule(2, 3)").bad("rule(-1, 5)", "rule(3, 5)").due("rule(0, 0)", 1).due("rule(1, 0)", 2).due("rule(2, 0)", 3);
        });
    }
}
