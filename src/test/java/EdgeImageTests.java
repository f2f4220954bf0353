/** Boundaries of promises 39 to 44: images, sheets, counts. */
public final class EdgeImageTests {
    private static final int NO = Edge.NO, FULL = Edge.FULL, NONE = Edge.NONE, NOTHING = Edge.NOTHING, INDEX = Edge.INDEX, SIZE = Edge.SIZE;

    public static void main(String[] args) {
        keep();
        back();
        changes();
        notKept();
        fullHouse();
        sheets();
        marks();
        copyRefused();
        copyEdges();
        copies();
        counts();
        countsOfCoin();
        Edge.end(39, 44);
    }

    private static void keep() {
        Edge.test(39, "AN IMAGE is kept: TODAY.", x -> x.due("keep()", 0).set("days(100)").due("keep()", 100).times(8, "days(100)").due("keep()", 900).due("back()", 900));
        Edge.test(39, "AN IMAGE is kept: TODAY.", x -> {
            x.set("keep()", "person(0, 1)", "days(5)", "keep()", "person(0, 1)", "days(1)").due("back()", 5).due("count(0)", 1).due("back()", 5).due("count(10)", 5);
        });
        Edge.test(39, "AN IMAGE keeps all", x -> x.due("keep()", 0).small().due("back()", 0).dues("count(?)", 0, 0, 0, 0, 0).due("person(0, 1)", 0));
    }

    private static void back() {
        Edge.test(40, "All is as THE IMAGE: TODAY. NO: there is none.", x -> {
            x.refused("back()", NO).small().set("days(3)").refused("back()", NO).due("count(10)", 3).due("keep()", 3).due("back()", 3).set("days(1)").due("back()", 3);
        });
        Edge.test(40, "all can become as it is (again and again)", x -> {
            x.small().set("days(2)", "entry(0, 0, 0, 100, 0)", "keep()");
            for (int i = 0; i < 4; i++) {
                x.set("entry(0, 0, 1, 9, 0)", "days(1)", "bill(0, 3, 0)", "stage(0, " + (i + 1) + ")", "wall(0, 0, 1)", "rule(0, " + i + ")", "free(0, " + (i + 1) + ")", "trust(0, 7)");
                x.set("retain(0, 7)", "task(0, 1, 0)", "door(0, 0, 1)").terms(0, 0, "parts 1 rate " + i).due("back()", 2).dues("count(?)", 1, 1, 1, 1, 0, 0, 0, 0, 0, 0, 2, 0, 0);
                x.due("rule(0, 9)", 120).due("free(0, 9)", 0).due("wall(0, 0, 0)", 0).due("worth(0, 2, 1)", 70).due("told(0, 8)", NONE).refused("foretold(0, 0)", NO);
            }
        });
        Edge.test(40, "AN IMAGE keeps all", x -> {
            // what stands in the image comes back, too, where it was changed or taken away
            x.small().set("client()", "matter(1, 1, 90)", "payers(0, 102, 1, NONE)", "wall(0, 1, 1)", "rule(0, 1)", "rule(1, 2)", "rule(2, 3)", "free(0, 44)", "task(0, 11, 1)", "trust(1, 5)", "retain(1, 6)");
            x.terms(0, 0, "parts n+1 rate 20").set("entry(0, 0, 0, 29, 0)", "door(0, 0, 5)", "bill(0, 0, 0)", "stage(0, 2)", "days(4)", "keep()");
            x.set("wall(0, 1, 0)", "rule(0, 9)", "rule(1, 9)", "rule(2, 9)", "free(0, 1)", "clear()", "draw(0, 1)", "bill(1, 4, 0)", "pay(0, 0, 20)", "stage(0, 4)", "days(1)").terms(0, 0, "parts 0 rate 0");
            x.due("back()", 4).due("count(11)", 5).due("count(12)", 6).dues("owes(0, ?, 0)", 20, 40).due("about(0, 1)", 0).due("plan(1)", 77).due("stage(0, 3)", 60).due("worth(0, 4, 0)", 30).due("written(0, 0, 4, 3)", 24);
            x.due("wall(0, 1, 1)", 1).due("rule(0, 0)", 1).due("rule(1, 0)", 2).due("rule(2, 0)", 3).due("free(0, 0)", 44).refused("payers(0, 1, NONE, NONE)", NO).due("payers(1, 1, NONE, NONE)", 1);
        });
        Edge.test(40, "AN IMAGE keeps all", x -> {
            x.small().set("matter(0, 0, 0)", "entry(0, 0, 0, 10, 0)", "entry(0, 1, 0, 100, 0)", "bill(0, 0, 0)", "bill(1, 0, 0)", "keep()").due("contest(1)", 630).due("back()", 0);
            x.due("told(1, 10)", NONE).due("owes(1, 0, 0)", 700).due("contest(1)", 630).set("keep()").due("back()", 0).refused("contest(1)", NO).due("owes(1, 0, 0)", 70);
        });
    }

    /** What may change once it is there, and numbers that are given once more. */
    private static void changes() {
        Edge.test(40, "AN IMAGE keeps all", x -> {
            x.small().times(2, "client()").set("matter(1, 0, 100)", "payers(1, 201, 103, NONE)", "keep()");
            x.fork().set("payers(1, 1, 101, 201)").due("back()", 0).set("bill(1, 0, 0)").dues("owes(0, ?, 0)", 0, 75, 25);
            x.fork().set("payers(1, 101, 203, NONE)").due("back()", 0).set("bill(1, 0, 0)").dues("owes(0, ?, 0)", 0, 75, 25);
            x.fork().set("payers(1, 299, 101, NONE)").due("back()", 0).set("bill(1, 0, 0)").dues("owes(0, ?, 0)", 0, 75, 25);
            x.fork().set("payers(1, 1, NONE, NONE)").due("back()", 0).set("bill(1, 0, 0)").dues("owes(0, ?, 0)", 0, 75, 25);
        });
        Edge.test(40, "AN IMAGE keeps all", x -> {
            x.small().set("matter(0, 0, 0)", "entry(0, 0, 0, 10, 0)", "entry(0, 1, 0, 30, 0)", "entry(0, 0, 0, 5, 0)", "stage(0, 2)", "stage(1, 1)", "keep()");
            x.fork().set("stage(1, 2)").due("back()", 0).set("stage(1, 5)").due("foretold(0, 0)", NONE);
            x.fork().set("stage(0, 3)").due("back()", 0).due("stage(0, 3)", 105).due("stage(0, 5)", 105);
            x.fork().set("withdraw(0)").due("back()", 0).due("told(0, 7)", NONE).due("withdraw(0)", 1);
            x.fork().set("bill(0, 0, 0)").due("told(0, 9)", 70).due("back()", 0).due("told(0, 8)", NONE).due("told(0, 9)", 0).due("withdraw(0)", 1);
            x.fork().set("withdraw(0)", "keep()").due("back()", 0).refused("withdraw(0)", NO).due("told(0, 7)", 0);
        });
        Edge.test(40, "AN IMAGE keeps all", x -> {
            x.small().set("matter(0, 0, 0)", "person(0, 10)", "free(0, 99)", "free(1, 99)", "wall(0, 0, 1)", "task(1, 20, 1)", "keep()").due("plan(1)", 140);
            x.fork().set("clear()", "task(0, 20, 1)").due("plan(1)", NO).due("back()", 0).due("plan(1)", 140);
            x.fork().set("clear()", "task(1, 10, 1)").due("plan(1)", 70).due("back()", 0).due("plan(1)", 140);
            x.fork().set("clear()", "task(1, 20, 0)").due("plan(2)", 20).due("back()", 0).due("plan(1)", 140);
        });
        Edge.test(40, "All is as THE IMAGE", x -> {
            // what came behind the image is gone, also where its number is given once more
            x.small().set("keep()", "person(2, 500)", "free(1, 44)", "client()", "trust(1, 9)", "matter(2, 1, 5)", "retain(1, 6)", "wall(0, 1, 1)", "wall(1, 1, 1)", "stage(1, 2)", "payers(1, 150, 1, NONE)");
            x.terms(1, 0, "parts 1 rate 1").set("entry(0, 0, 0, 9, 5)", "withdraw(0)", "entry(0, 0, 0, 8, 5)", "bill(0, 0, 0)", "door(0, 0, 200001)", "task(0, 9, 2)").due("back()", 0);
            x.due("person(0, 10)", 1).due("is(1, 2)", 0).due("free(1, 0)", 0).due("client()", 1).due("trust(1, 0)", 0).due("matter(0, 1, 0)", 1).due("count(12)", 0).due("wall(0, 1, 0)", 0).due("wall(1, 1, 0)", 0);
            x.refused("foretold(1, 0)", NO).due("entry(1, 1, 0, 7, 0)", 0).dues("told(0, ?)", 1, 1, 0, 0, 7, 0, 0, NONE, NONE, 0, NONE).due("worth(0, 0, 3)", 7).due("written(0, 0, 0, 3)", 0);
            x.due("stage(1, 3)", 7).due("bill(1, 0, 0)", 0).due("owes(0, 1, 0)", 7).refused("pay(0, 0, 1)", NO).due("plan(1)", 0).due("count(5)", 0);
        });
    }

    private static void notKept() {
        Edge.test(40, "AN IMAGE keeps all but SHEETS, numbers that wait, THE TAPE", x -> {
            x.small().set("sheet(0, 3)", "mark(0, 1, 5)", "tell(1)", "tell(2)").put("parts").set("keep()", "mark(0, 1, 6)", "sheet(1, 2)", "tell(3)").put(" n rate r");
            x.due("back()", 0).due("count(8)", 3).due("count(9)", 14).due("mark(0, 1, 7)", 6).due("mark(1, 1, 7)", 0).due("terms(0, 0)", 2);
            x.due("check()", 1).due("back()", 0).due("count(8)", 0).due("count(9)", 0).due("count(5)", 0).set("sheet(0, 0)").due("back()", 0).refused("mark(0, 0, 1)", INDEX);
        });
        Edge.test(40, "AN IMAGE keeps all but SHEETS, numbers that wait, THE TAPE", x -> {
            x.set("keep()", "sheet(0, 1)", "tell(1)", "feed(0, 0, 0)").due("back()", 0).due("count(8)", 1).due("count(9)", 12).due("mark(0, 0, 1)", 0);
        });
    }

    private static void fullHouse() {
        Edge.test(40, "AN IMAGE keeps all", x -> {
            x.times(5, "client()");
            for (int p = 0; p < 8; p++) x.set("person(" + p % 4 + ", " + (100 + p) + ")", "free(" + p + ", " + (900 + p) + ")");
            for (int m = 0; m < 10; m++) x.set("matter(0, " + m % 5 + ", " + m + ")", "retain(" + m + ", " + (m + 1) + ")");
            for (int c = 0; c < 5; c++) x.set("trust(" + c + ", " + (50 + c) + ")");
            for (int e = 0; e < 90; e++) x.set("entry(" + e % 8 + ", " + e % 10 + ", 0, " + (1000 * e + 1 + e) + ", " + e % 6 + ")");
            for (int d = 0; d < 60; d++) x.set("door(" + d % 8 + ", 0, " + (1000 * d + 1) + ")");
            for (int b = 0; b < 16; b++) x.set("bill(" + b % 10 + ", 0, 10)");
            for (int t = 0; t < 6; t++) x.set("task(" + t + ", " + (1 + t) + ", 2)");
            x.set("days(7)", "keep()");
            x.refused("person(0, 1)", FULL).refused("client()", FULL).refused("matter(0, 0, 0)", FULL).refused("entry(0, 0, 0, 1, 0)", FULL).refused("door(0, 0, 1)", FULL).refused("bill(0, 0, 0)", FULL).refused("task(0, 1, 0)", FULL);
            x.set("clear()", "days(2)", "pay(15, 0, 5)", "trust(4, 1)", "free(7, 1)").due("back()", 7).dues("count(?)", 8, 5, 10, 90, 60, 0, 16, 6, 0, 0, 7, 260);
            x.due("free(7, 0)", 907).due("trust(4, 0)", 54).due("told(89, 3)", 89).due("told(89, 4)", 90).due("planned(30000, 5)", 2);
        });
    }

    private static void sheets() {
        Edge.test(41, "A SHEET has n places, all 0: n. BAD: sheet, n above 20; SIZE.", x -> {
            x.range("sheet(0, ?)", 0, 20, SIZE, Edge.BAD).range("sheet(1, ?)", 0, 20, SIZE, Edge.BAD).range("sheet(?, 5)", 0, 1);
            x.bad("sheet(2, -1)", "sheet(-1, -1)", "sheet(2, 21)", "sheet(MIN, MIN)").refused("mark(0, 0, 1)", NOTHING).refused("mark(1, 0, 1)", NOTHING);
        });
        Edge.test(41, "A SHEET has n places, all 0: n.", x -> {
            x.due("sheet(0, 20)", 20).set("mark(0, 0, 3)");
            for (int place = 0; place < 20; place++) x.taken(place == 0 ? "mark(0, 0, 4)" : "mark(0, " + place + ", 4)");
            x.refused("sheet(0, -1)", SIZE).bad("sheet(0, 21)").due("mark(0, 19, 4)", 4).due("sheet(0, 1)", 1).due("mark(0, 0, 5)", 0).refused("mark(0, 1, 5)", INDEX);
            x.due("sheet(0, 20)", 20);
            for (int place = 0; place < 20; place++) x.due("mark(0, " + place + ", 0)", 0);
            x.due("sheet(0, 0)", 0).refused("mark(0, 0, 5)", INDEX).refused("sheet(0, -1)", SIZE).refused("mark(0, 0, 5)", INDEX).refused("mark(1, 0, 1)", NOTHING);
        });
    }

    private static void marks() {
        Edge.test(42, "A place of a SHEET becomes v (as a short): what it was. BAD: sheet; NOTHING; INDEX.", x -> {
            x.refused("mark(0, -1, 1)", NOTHING).refused("mark(1, 20, 1)", NOTHING).bad("mark(2, 0, 1)", "mark(-1, 0, 1)", "mark(2, -1, 1)", "mark(MIN, MIN, 0)", "mark(MAX, MAX, 0)");
            x.set("sheet(0, 20)").range("mark(0, ?, 1)", 0, 19, INDEX, INDEX).refused("mark(1, 0, 1)", NOTHING).refused("mark(1, -1, 1)", NOTHING);
            x.set("sheet(1, 1)").range("mark(1, ?, 1)", 0, 0, INDEX, INDEX).range("mark(?, 0, 1)", 0, 1).bad("mark(2, 20, 1)").set("sheet(0, 0)").refused("mark(0, 0, 1)", INDEX);
        });
        Edge.test(42, "becomes v (as a short)", x -> {
            int[][] rows = {{0, 0}, {1, 1}, {-1, -1}, {32767, 32767}, {32768, -32768}, {-32768, -32768}, {-32769, 32767}, {65535, -1}, {65536, 0}, {65537, 1},
                {Edge.MAX, -1}, {Edge.MIN, 0}, {Edge.MIN + 32767, 32767}, {100000, -31072}};
            x.set("sheet(1, 3)");
            for (int[] r : rows) x.taken("sheet(1, 3)").due("mark(1, 1, " + r[0] + ")", 0).due("mark(1, 1, 0)", r[1]).due("mark(1, 0, 0)", 0).due("mark(1, 2, 0)", 0);
        });
    }

    private static void copyRefused() {
        Edge.test(43, "BAD; NOTHING; INDEX", x -> {
            for (String call : new String[] {"copy(0, 0, 1, 0, 0)", "copy(1, 0, 0, 0, 0)", "copy(0, 0, 0, 0, 0)", "copy(0, -1, 1, 99, -5)"}) x.refused(call, NOTHING);
            x.set("sheet(0, 3)").refused("copy(0, 0, 1, 0, 0)", NOTHING).refused("copy(1, 0, 0, 0, 0)", NOTHING).refused("copy(0, 0, 1, 0, -1)", NOTHING).refused("copy(0, 4, 1, 0, 1)", NOTHING);
            for (int s : new int[] {-1, 2, Edge.MIN, Edge.MAX, 65536}) x.bad("copy(" + s + ", 0, 0, 0, 1)", "copy(0, 0, " + s + ", 0, 1)", "copy(1, 0, " + s + ", 0, 1)", "copy(" + s + ", -1, 1, 99, -1)");
            x.set("sheet(1, 2)").range("copy(?, 0, 0, 0, 1)", 0, 1).range("copy(0, 0, ?, 0, 1)", 0, 1).bad("copy(2, 9, 0, 9, -1)");
        });
        Edge.test(43, "INDEX (many below 0, too; many 0: not at the place behind the last one)", x -> {
            x.set("sheet(0, 5)", "sheet(1, 3)", "mark(0, 0, 1)", "mark(0, 4, 2)", "mark(1, 0, 3)", "mark(1, 2, 4)");
            x.range("copy(0, 0, 1, 0, ?)", 0, 3, INDEX, INDEX).range("copy(1, 0, 0, 0, ?)", 0, 3, INDEX, INDEX).range("copy(0, 0, 0, 0, ?)", 0, 5, INDEX, INDEX);
            x.range("copy(0, ?, 1, 0, 0)", 0, 5, INDEX, INDEX).range("copy(0, 0, 1, ?, 0)", 0, 3, INDEX, INDEX);
            x.range("copy(0, ?, 1, 0, 1)", 0, 4, INDEX, INDEX).range("copy(0, 0, 1, ?, 1)", 0, 2, INDEX, INDEX);
            x.range("copy(0, ?, 1, 0, 3)", 0, 2, INDEX, INDEX).range("copy(0, 0, 1, ?, 3)", 0, 0, INDEX, INDEX);
        });
    }

    private static void copyEdges() {
        Edge.test(43, "many 0: not at the place behind the last one", x -> {
            x.set("sheet(0, 5)", "sheet(1, 0)").due("copy(0, 5, 1, 0, 0)", 0).due("copy(1, 0, 0, 5, 0)", 0).due("copy(1, 0, 1, 0, 0)", 0).due("copy(0, 5, 0, 5, 0)", 0);
            x.refused("copy(0, 6, 1, 0, 0)", INDEX).refused("copy(0, 5, 1, 1, 0)", INDEX).refused("copy(1, 0, 0, 0, 1)", INDEX).refused("copy(0, 0, 1, 0, 1)", INDEX).refused("copy(0, 5, 0, 0, 1)", INDEX);
        });
        Edge.test(43, "INDEX: there is no such place", x -> {
            // sums of a place and many that are no int any more
            x.set("sheet(0, 20)", "sheet(1, 20)", "mark(0, 1, 9)");
            for (String call : new String[] {"copy(0, 1, 1, 0, MAX)", "copy(0, MAX, 1, 0, 1)", "copy(0, MAX, 1, MAX, MAX)", "copy(0, 0, 1, 1, MAX)", "copy(0, 0, 1, MAX, 1)", "copy(0, MIN, 1, 0, MIN)",
                "copy(0, MIN, 1, 0, MAX)", "copy(0, 0, 1, MIN, MAX)", "copy(0, -1, 1, 0, 1)", "copy(0, 0, 1, -1, 1)", "copy(0, -1, 1, 0, 0)", "copy(0, 0, 1, -1, 0)", "copy(0, 20, 1, 20, MIN)", "copy(0, 19, 1, 0, 2)", "copy(0, 0, 1, 19, 2)"}) {
                x.refused(call, INDEX);
            }
            x.due("copy(0, 0, 1, 0, 20)", 20).due("mark(1, 1, 0)", 9).due("copy(0, 19, 1, 19, 1)", 1);
        });
    }

    private static Edge numbered(Edge x, int sheet, int size) {
        x.set("sheet(" + sheet + ", " + size + ")");
        for (int i = 0; i < size; i++) x.set("mark(" + sheet + ", " + i + ", " + (10 + i) + ")");
        return x;
    }

    private static Edge holds(Edge x, int sheet, int... due) {
        for (int i = 0; i < due.length; i++) x.due("mark(" + sheet + ", " + i + ", 0)", due[i]);
        return x;
    }

    private static void copies() {
        Edge.test(43, "So many places of a SHEET come to another one (or the same), as they were: many.", x -> {
            numbered(x, 0, 5);
            holds(x.fork().due("copy(0, 0, 0, 1, 4)", 4), 0, 10, 10, 11, 12, 13);
            holds(x.fork().due("copy(0, 1, 0, 0, 4)", 4), 0, 11, 12, 13, 14, 14);
            holds(x.fork().due("copy(0, 0, 0, 0, 5)", 5), 0, 10, 11, 12, 13, 14);
            holds(x.fork().due("copy(0, 4, 0, 0, 1)", 1), 0, 14, 11, 12, 13, 14);
            holds(x.fork().due("copy(0, 2, 0, 2, 0)", 0), 0, 10, 11, 12, 13, 14);
            Edge y = x.fork().set("sheet(1, 20)", "mark(1, 0, -7)").due("copy(0, 0, 1, 15, 5)", 5);
            holds(y, 1, -7, 0, 0, 0, 0, 0, 0, 0, 0, 0, 0, 0, 0, 0, 0, 10, 11, 12, 13, 14);
            holds(y, 0, 10, 11, 12, 13, 14);
        });
        Edge.test(43, "So many places of a SHEET come to another one (or the same), as they were: many.", x -> {
            Edge y = numbered(numbered(x, 0, 20), 1, 20).set("mark(0, 19, -32768)").due("copy(0, 0, 0, 1, 19)", 19);
            y.due("mark(0, 0, 0)", 10).due("mark(0, 1, 0)", 10).due("mark(0, 19, 0)", 28).due("mark(1, 0, 0)", 10).due("copy(1, 1, 0, 0, 19)", 19).due("mark(0, 0, 0)", 11).due("mark(0, 18, 0)", 29).due("mark(0, 19, 0)", 0);
        });
    }

    private static void counts() {
        Edge.test(44, "11 TRUST of all, 12 RETAINERS of all. BAD.", x -> {
            x.range("count(?)", 0, 12).small();
            x.range("count(?)", 0, 12);
        });
        Edge.test(44, "3 ENTRIES, 4 DOORS, 5 TERMS, 6 BILLS, 7 TASKS, 8 numbers that wait, 9 bytes of THE TAPE, 10 TODAY", x -> {
            x.small().times(3, "entry(0, 0, 0, 1, 0)").set("withdraw(0)").due("count(3)", 3).set("door(0, 0, 1)", "door(0, 0, 1)").due("count(4)", 2).terms(0, 900, "parts 1 rate 1").due("count(5)", 1);
            x.times(4, "bill(0, 0, 0)").due("count(6)", 4).times(5, "task(0, 1, 0)").due("count(7)", 5).times(6, "tell(0)").due("count(8)", 6).set("feed(0, 0, 0)", "trim(7)").due("count(9)", 7).set("days(8)").due("count(10)", 8);
            x.dues("count(?)", 1, 1, 1, 3, 2, 1, 4, 5, 6, 7, 8, 0, 0);
        });
    }

    private static void countsOfCoin() {
        Edge.test(44, "11 TRUST of all", x -> {
            // 511 calls: all that five clients may have
            x.times(5, "client()");
            for (int c = 0; c < 5; c++) x.times(100, "trust(" + c + ", 99999)").set("trust(" + c + ", 99)");
            x.due("count(11)", 49999995);
        });
        Edge.test(44, "12 RETAINERS of all", x -> {
            x.set("client()").times(10, "matter(1, 0, 1)");
            for (int m = 0; m < 10; m++) x.times(10, "retain(" + m + ", 99999)").set("retain(" + m + ", 9)");
            x.due("count(12)", 9999990).set("bill(9, 0, 0)").due("count(12)", 9999989).due("count(11)", 0);
        });
    }
}
