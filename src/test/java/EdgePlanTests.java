/** Boundaries of promises 29 to 38: stages, what is foretold, tasks, plans and their rows. */
public final class EdgePlanTests {
    private static final int NO = Edge.NO, FULL = Edge.FULL, SPENT = Edge.SPENT, NONE = Edge.NONE, NOTHING = Edge.NOTHING, MIN = Edge.MIN, MAX = Edge.MAX;

    public static void main(String[] args) {
        stages();
        soFar();
        foretoldRefused();
        foretold();
        foretoldMost();
        tasks();
        clear();
        free();
        lay();
        layEdges();
        plansRefused();
        tries();
        mayBePut();
        freeEnough();
        costs();
        firstOfSeveral();
        planned();
        tell();
        rows();
        checkRefused();
        Edge.end(29, 38);
    }

    /** A clerk at 10, so that an entry is worth its parts; one client and so many plain matters. */
    private static Edge plain(Edge x, int matters) {
        return x.set("person(0, 10)", "client()").times(matters, "matter(0, 0, 0)");
    }

    private static void stages() {
        Edge.test(29, "A MATTER is told to be at a stage: SOFAR. BAD: stage 1 .. 5", x -> {
            x.set("client()").bad("stage(0, 1)").set("matter(0, 0, 0)").range("stage(0, ?)", 1, 5).range("stage(?, 1)", 0, 0).times(9, "matter(0, 0, 0)").range("stage(?, 5)", 0, 9);
        });
        Edge.test(29, "NO: not above that at which it is.", x -> {
            plain(x, 2);
            for (int at = 1; at <= 5; at++) {
                Edge y = x.fork().set("stage(0, " + at + ")");
                for (int s = 1; s <= 5; s++) {
                    if (s <= at) y.refused("stage(0, " + s + ")", NO);
                    else y.fork().due("stage(0, " + s + ")", 0);
                }
                y.bad("stage(0, 0)", "stage(0, 6)", "stage(0, -1)", "stage(2, 5)").due("stage(1, 1)", 0);
            }
            x.due("stage(0, 1)", 0).due("stage(0, 2)", 0).due("stage(0, 3)", 0).due("stage(0, 4)", 0).due("stage(0, 5)", 0).refused("stage(0, 5)", NO);
        });
        Edge.test(29, "STAGES of a MATTER: 0 at first, told upwards to 5, its end", x -> plain(x, 1).refused("foretold(0, 0)", NO).due("stage(0, 1)", 0).due("foretold(0, 0)", NONE));
    }

    private static void soFar() {
        Edge.test(29, "NO: not above that at which it is.", x -> {
            // SOFAR stays as it was told: 8 by 4 of 10, and no stage 2 of the other one
            plain(x, 3).set("entry(0, 0, 0, 8, 0)", "stage(0, 1)", "entry(0, 1, 0, 4, 0)", "stage(1, 1)", "stage(1, 3)", "entry(0, 1, 0, 6, 0)", "stage(1, 5)", "entry(0, 2, 0, 9, 0)", "stage(2, 2)");
            x.due("foretold(0, 0)", 20).due("foretold(2, 0)", NONE).set("entry(0, 0, 0, 100, 0)", "entry(0, 1, 0, 50, 0)");
            for (int s = 1; s <= 5; s++) x.refused("stage(1, " + s + ")", NO);
            x.refused("stage(0, 1)", NO).refused("stage(2, 1)", NO).refused("stage(2, 2)", NO).due("foretold(0, 0)", 20).due("foretold(2, 0)", NONE).due("stage(2, 3)", 9).due("foretold(2, 0)", 22);
        });
        Edge.test(29, "what is CHARGED for all its ENTRIES KNOWN TODAY is kept with it (SOFAR)", x -> {
            plain(x, 2).due("stage(0, 1)", 0).set("days(3)", "entry(0, 0, 0, 7, 0)", "entry(0, 0, 3, 9, 0)", "entry(0, 1, 0, 50, 0)", "entry(0, 0, 0, 100, 0)", "withdraw(3)");
            x.due("stage(0, 2)", 16).set("bill(0, 3, 50)").due("stage(0, 3)", 16).set("entry(0, 0, 3, 1, 0)").due("stage(0, 5)", 17).due("stage(1, 5)", 50);
        });
        Edge.test(29, "what is CHARGED for all its ENTRIES KNOWN TODAY", x -> {
            x.set("person(0, 10)", "client()", "matter(1, 0, 500)", "matter(2, 0, 50)", "matter(3, 0, 50)", "days(30)");
            for (int m = 0; m < 3; m++) x.set("entry(0, " + m + ", 0, 40, 5)", "entry(0, " + m + ", 29, 60, 0)", "entry(0, " + m + ", 30, 20, 0)");
            x.due("stage(0, 1)", 0).due("stage(1, 1)", 70).due("stage(2, 1)", 110);
        });
        Edge.test(29, "what is CHARGED for all its ENTRIES KNOWN TODAY", x -> {
            x.set("person(0, 999)", "client()", "matter(0, 0, 0)").terms(0, 0, "parts 240 rate 9999").times(90, "entry(0, 0, 0, 1, 0)").due("stage(0, 1)", 21597840);
        });
    }

    private static void foretoldRefused() {
        Edge.test(30, "BAD; NO: it is at 0, at 5; NONE: there are no such MATTERS.", x -> {
            plain(x, 2).refused("foretold(0, 0)", NO).refused("foretold(0, 1)", NO).bad("foretold(0, 2)", "foretold(0, -1)", "foretold(2, 0)", "foretold(-1, 0)");
            x.set("entry(0, 0, 0, 5, 0)", "entry(0, 1, 0, 5, 0)");
            for (int s = 1; s <= 4; s++) x.set("stage(0, " + s + ")").due("foretold(0, 0)", NONE).due("foretold(0, 1)", NONE);
            x.set("stage(0, 5)").refused("foretold(0, 0)", NO).refused("foretold(0, 1)", NO).bad("foretold(0, 2)").refused("foretold(1, 0)", NO);
            x.set("stage(1, 1)").range("foretold(1, ?)", 0, 1);
        });
        Edge.test(30, "FORETOLD of a MATTER, by the stage at which it is", x -> {
            plain(x, 10).times(1, "entry(0, 0, 0, 5, 0)").set("entry(0, 9, 0, 5, 0)");
            for (int m = 0; m < 10; m++) x.set("stage(" + m + ", 1)");
            x.set("stage(9, 5)").dues("foretold(?, 0)", 5, 0, 0, 0, 0, 0, 0, 0, 0, NO).bad("foretold(10, 0)", "foretold(-1, 0)", "foretold(MIN, 0)", "foretold(MAX, 1)");
        });
    }

    private static void foretold() {
        Edge.test(30, "of all other MATTERS of the same KIND that are at 5 and were told to be at s, with SOFAR at s above 0", x -> {
            plain(x, 3).set("entry(0, 0, 0, 10, 0)", "stage(0, 2)", "stage(1, 2)", "entry(0, 1, 0, 5, 0)", "stage(1, 5)").due("foretold(0, 0)", NONE);
            x.set("entry(0, 2, 0, 1, 0)", "stage(2, 1)", "entry(0, 2, 0, 3, 0)", "stage(2, 4)").due("foretold(0, 0)", NONE).set("stage(2, 5)").due("foretold(0, 0)", NONE);
            x.set("matter(0, 0, 0)", "entry(0, 3, 0, 1, 0)", "stage(3, 2)", "stage(3, 4)").due("foretold(0, 0)", NONE).set("stage(3, 5)").due("foretold(0, 0)", 10);
            x.set("stage(0, 3)").due("foretold(0, 0)", NONE).set("stage(0, 4)").due("foretold(0, 0)", 10).due("foretold(0, 1)", 10);
        });
        Edge.test(30, "of all other MATTERS of the same KIND", x -> {
            x.set("person(0, 10)", "client()");
            for (int k = 0; k <= 3; k++) x.set("matter(" + k + ", 0, 999)", "matter(" + k + ", 0, 999)");
            for (int m = 0; m < 8; m++) x.set("entry(0, " + m + ", 0, 7, 0)", "stage(" + m + ", 1)");
            for (int k = 0; k <= 3; k++) {
                Edge y = x.fork().set("stage(" + 2 * k + ", 5)");
                for (int m = 1; m < 8; m += 2) y.due("foretold(" + m + ", 0)", m == 2 * k + 1 && k != 1 ? 7 : NONE);
            }
        });
        Edge.test(30, "its own SOFAR at s times theirs at 5 / theirs at s; the least, the greatest one", x -> {
            plain(x, 4).set("entry(0, 0, 0, 10, 0)", "stage(0, 1)", "entry(0, 1, 0, 3, 0)", "entry(0, 2, 0, 7, 0)", "entry(0, 3, 0, 6, 0)");
            for (int m = 1; m <= 3; m++) x.set("stage(" + m + ", 1)");
            x.set("entry(0, 1, 0, 4, 0)", "stage(1, 5)").due("foretold(0, 0)", 23).due("foretold(0, 1)", 23);
            x.set("stage(2, 5)").due("foretold(0, 0)", 10).due("foretold(0, 1)", 23).set("entry(0, 3, 0, 60, 0)", "stage(3, 5)").due("foretold(0, 0)", 10).due("foretold(0, 1)", 110);
        });
        Edge.test(30, "its own SOFAR at s times theirs at 5 / theirs at s", x -> {
            plain(x, 2).set("stage(0, 1)", "entry(0, 1, 0, 9, 0)", "stage(1, 1)", "stage(1, 5)").due("foretold(0, 0)", 0).due("foretold(0, 1)", 0);
        });
        Edge.test(30, "its own SOFAR at s times theirs at 5 / theirs at s", x -> {
            plain(x, 2).set("entry(0, 0, 0, 9, 0)", "stage(0, 1)", "entry(0, 1, 0, 9, 0)", "stage(1, 1)", "withdraw(1)", "stage(1, 5)").due("foretold(0, 0)", 0).due("foretold(0, 1)", 0);
        });
    }

    private static void foretoldMost() {
        Edge.test(30, "the least (end 0), the greatest (1), 99999999 at most", x -> {
            // its own 9999; theirs 1 at first, at the end 1 and 9998, 9999, 10000, 10001 more
            int[][] rows = {{9998, 1, 99980001}, {9999, 1, 99990000}, {5000, 2, 99999999}, {5001, 2, 99999999}, {9999, 24, 99999999}};
            x.set("person(0, 10)", "client()", "client()", "matter(0, 0, 0)", "matter(0, 1, 0)").terms(0, 0, "parts 10 rate 9999");
            for (int[] r : rows) {
                Edge y = x.fork().terms(1, 0, "parts 10*(c=0)+" + 10 * r[1] + "*(c=1) rate (c=0)+" + r[0] + "*(c=1)");
                y.set("entry(0, 0, 0, 1, 0)", "entry(0, 1, 0, 1, 0)").due("stage(0, 1)", 9999).due("stage(1, 1)", 1);
                y.set("entry(0, 1, 0, 1, 1)").due("stage(1, 5)", 1 + r[0] * r[1]).due("foretold(0, 0)", r[2]).due("foretold(0, 1)", r[2]);
            }
        });
        Edge.test(30, "its own SOFAR at s times theirs at 5 / theirs at s", x -> {
            x.set("person(0, 999)", "client()", "matter(0, 0, 0)", "matter(0, 0, 0)").terms(0, 0, "parts 240 rate 9999").times(44, "entry(0, 0, 0, 1, 0)").times(44, "entry(0, 1, 0, 1, 0)");
            x.due("stage(0, 1)", 10558944).due("stage(1, 1)", 10558944).set("entry(0, 1, 0, 1, 0)").due("stage(1, 5)", 10798920).due("foretold(0, 0)", 10798920).due("foretold(0, 1)", 10798920);
        });
    }

    private static void tasks() {
        Edge.test(31, "of a MATTER, PARTS 1 .. 999, a LEAST KIND (0 .. 2: CLERK, LAWYER, PARTNER", x -> {
            x.set("client()").bad("task(0, 1, 0)").set("matter(0, 0, 0)").range("task(?, 1, 0)", 0, 0).range("task(0, ?, 0)", 1, 999).range("task(0, 1, ?)", 0, 2);
            x.times(9, "matter(0, 0, 0)").range("task(?, 1, 0)", 0, 9);
        });
        Edge.test(31, "TASKS, 6 at most, numbered from 0", x -> {
            plain(x, 1);
            for (int i = 0; i < 6; i++) x.due("count(7)", i).due("task(0, 1, 0)", i);
            x.refused("task(0, 1, 0)", FULL).bad("task(1, 1, 0)", "task(0, 0, 0)", "task(0, 1000, 0)", "task(0, 1, 3)", "task(0, 1, -1)").due("count(7)", 6);
        });
    }

    private static void clear() {
        Edge.test(32, "TASKS are no more: how many there were.", x -> {
            plain(x, 1).due("clear()", 0).set("task(0, 1, 0)").due("clear()", 1).due("clear()", 0).times(6, "task(0, 1, 2)").due("clear()", 6).due("count(7)", 0);
            x.due("plan(1)", 0).bad("planned(1, 0)").set("free(0, 5)").due("task(0, 5, 0)", 0).due("plan(1)", 5);
        });
    }

    private static void free() {
        Edge.test(33, "FREE of a PERSON becomes v: what it was. BAD.", x -> {
            x.bad("free(0, 0)").set("person(0, 1)").range("free(?, 1)", 0, 0).range("free(0, ?)", 0, 9999).times(7, "person(0, 1)").range("free(?, 1)", 0, 7);
        });
        Edge.test(33, "FREE of a PERSON: PARTS 0 .. 9999 (0 at first).", x -> {
            x.times(8, "person(0, 1)").due("free(7, 9999)", 0).due("free(0, 1)", 0).bad("free(7, 10000)", "free(7, -1)").due("free(7, 0)", 9999).due("free(7, 0)", 0).due("free(0, 0)", 1);
        });
    }

    private static void lay() {
        Edge.test(34, "as many as there are of both", x -> {
            int[][] rows = {{0, 0}, {0, 20}, {1, 0}, {1, 1}, {1, 2}, {3, 2}, {3, 3}, {3, 4}, {8, 7}, {8, 8}, {8, 9}, {8, 20}};
            for (int[] r : rows) {
                Edge y = x.fork().times(r[0], "person(0, 1)").set("sheet(1, " + r[1] + ")");
                for (int i = 0; i < r[1]; i++) y.set("mark(1, " + i + ", " + (100 + i) + ")");
                for (int p = 0; p < r[0]; p++) y.set("free(" + p + ", 7)");
                y.due("lay(1)", Math.min(r[0], r[1]));
                for (int p = 0; p < r[0]; p++) y.due("free(" + p + ", 0)", p < r[1] ? 100 + p : 7);
                if (r[0] < 8) y.set("person(0, 1)").due("free(" + r[0] + ", 0)", 0);
            }
        });
        Edge.test(34, "how many. BAD; NOTHING.", x -> {
            x.set("person(0, 1)", "free(0, 5)").refused("lay(0)", NOTHING).refused("lay(1)", NOTHING).bad("lay(-1)", "lay(2)", "lay(MIN)", "lay(MAX)");
            x.set("sheet(0, 1)", "sheet(1, 0)").range("lay(?)", 0, 1).due("lay(1)", 0).due("free(0, 6)", 5).due("lay(0)", 1).due("free(0, 6)", 0);
        });
    }

    private static void layEdges() {
        Edge.test(34, "(below 0 counts as 0, above 9999 as 9999)", x -> {
            int[][] rows = {{0, 0}, {1, 1}, {-1, 0}, {-32768, 0}, {9998, 9998}, {9999, 9999}, {10000, 9999}, {32767, 9999}, {32768, 0}, {65535, 0}, {65536, 0}, {65537, 1}};
            x.set("person(0, 1)", "free(0, 5)", "sheet(0, 20)");
            for (int[] r : rows) x.fork().set("sheet(0, 1)").due("mark(0, 0, " + r[0] + ")", 0).due("lay(0)", 1).due("free(0, 0)", r[1]);
        });
        Edge.test(34, "FREE of PEOPLE comes from a SHEET, place by place", x -> {
            x.set("person(0, 1)", "sheet(0, 1)", "mark(0, 0, 8)", "lay(0)", "mark(0, 0, 9)").due("free(0, 8)", 8).due("mark(0, 0, 9)", 9).set("sheet(0, 0)").due("free(0, 1)", 8);
        });
    }

    private static void plansRefused() {
        Edge.test(35, "found with so many TRIES (1 .. 30000). BAD", x -> {
            x.range("plan(?)", 1, 30000);
            plain(x, 1).set("task(0, 5, 0)", "free(0, 5)").range("plan(?)", 1, 30000);
        });
        Edge.test(35, "BAD; SPENT; NO: there is none.", x -> {
            // two may be put for the first task, none for the other one: two tries
            plain(x, 1).set("person(0, 1)", "free(0, 5)", "free(1, 5)", "task(0, 5, 0)", "task(0, 6, 0)").refused("plan(1)", SPENT).refused("plan(2)", NO).refused("plan(30000)", NO);
            x.bad("plan(0)", "plan(30001)", "plan(-1)").refused("planned(1, 0)", SPENT).refused("planned(2, 0)", NO).refused("planned(2, 1)", NO);
        });
        Edge.test(35, "NO: there is none.", x -> {
            x.set("client()", "matter(0, 0, 0)", "task(0, 1, 0)").refused("plan(1)", NO).set("person(0, 1)").refused("plan(1)", NO).set("free(0, 1)").due("plan(1)", 0);
        });
        Edge.test(35, "What THE PLAN COSTS", x -> x.due("plan(1)", 0).times(8, "person(0, 9)").due("plan(1)", 0).due("plan(30000)", 0));
    }

    private static Edge house(Edge x, int[] free, int[] parts) {
        x.set("client()", "matter(0, 0, 0)");
        for (int p = 0; p < free.length; p++) x.set("person(0, 10)", "free(" + p + ", " + free[p] + ")");
        for (int n : parts) x.set("task(0, " + n + ", 0)");
        return x;
    }

    private static void tries() {
        Edge.test(35, "each who may and has still FREE enough is put (a TRY)", x -> {
            for (int p = 1; p <= 8; p++) {
                int[] free = new int[p];
                java.util.Arrays.fill(free, 9999);
                int all = 0, many = 1;
                for (int t = 1; t <= 6; t++) {
                    int[] parts = new int[t];
                    java.util.Arrays.fill(parts, 9);
                    many *= p;
                    all += many;
                    if (all > 30000) break;
                    Edge y = house(x.fork(), free, parts).due("plan(" + all + ")", 9 * t);
                    if (all > 1) y.refused("plan(" + (all - 1) + ")", SPENT).refused("planned(" + (all - 1) + ", 0)", SPENT).due("planned(" + all + ", 0)", 0);
                }
            }
        });
        Edge.test(35, "SPENT: more than so many TRIES would be done.", x -> {
            // by another program: just 30000 tries, and just 30001
            house(x.fork(), new int[] {3, 9, 6, 8, 1, 9, 6, 8}, new int[] {1, 2, 1, 1, 1}).due("plan(30000)", 6).refused("plan(29999)", SPENT).bad("plan(30001)").due("planned(30000, 4)", 1);
            house(x.fork(), new int[] {6, 6, 5, 7, 2, 2}, new int[] {2, 1, 1, 2, 2, 2}).refused("plan(30000)", SPENT).refused("planned(30000, 0)", SPENT).refused("planned(30000, 5)", SPENT).refused("check()", SPENT);
            house(x.fork(), new int[] {9, 9, 7, 9, 9, 1, 3, 7}, new int[] {2, 1, 1, 1, 1}).due("plan(29999)", 6).due("plan(30000)", 6).refused("plan(29998)", SPENT);
        });
        Edge.test(35, "SPENT: more than so many TRIES would be done.", x -> {
            // eight people for five tasks are more than 30000 tries, though nobody may be put for the sixth
            house(x, new int[] {9999, 9999, 9999, 9999, 9999, 9999, 9999, 9999}, new int[] {1, 1, 1, 1, 1}).set("task(0, 1, 2)").refused("plan(30000)", SPENT).refused("planned(30000, 5)", SPENT);
            x.set("tell(1)").refused("check()", SPENT).due("count(8)", 0);
        });
        Edge.test(35, "SPENT: more than so many TRIES would be done.", x -> {
            // the dearer ones are tried, too
            house(x, new int[] {5}, new int[] {5}).set("person(0, 999)", "free(1, 5)").refused("plan(1)", SPENT).due("plan(2)", 5).set("wall(1, 0, 1)").due("plan(1)", 5);
        });
    }

    private static void mayBePut() {
        Edge.test(35, "(LAWYER: PARTNERS, too; CLERK: all)", x -> {
            x.set("client()", "matter(0, 0, 0)");
            int[][] may = {{1, 1, 1, 1}, {0, 1, 1, 0}, {0, 0, 1, 0}};
            for (int least = 0; least <= 2; least++) {
                for (int kind = 0; kind <= 3; kind++) {
                    x.fork().set("person(" + kind + ", 10)", "free(0, 9)", "task(0, 9, " + least + ")").due("plan(1)", may[least][kind] == 1 ? 9 : NO);
                }
            }
        });
        Edge.test(35, "without a WALL to its MATTER", x -> {
            x.set("client()", "matter(0, 0, 0)", "matter(0, 0, 0)", "person(0, 10)", "free(0, 99)", "task(1, 9, 0)", "wall(0, 0, 1)").due("plan(1)", 9);
            x.set("wall(0, 1, 1)").refused("plan(1)", NO).set("wall(0, 1, 0)", "task(0, 9, 0)").refused("plan(1)", NO).set("wall(0, 0, 0)").due("plan(2)", 18);
        });
        Edge.test(35, "without a WALL to its MATTER", x -> {
            x.set("client()").times(10, "matter(0, 0, 0)").times(8, "person(0, 10)").set("free(7, 9)", "task(9, 9, 0)").due("plan(1)", 9).set("wall(7, 9, 1)").refused("plan(1)", NO);
            x.set("free(6, 9)").due("planned(1, 0)", 6);
        });
    }

    private static void freeEnough() {
        Edge.test(35, "so that nobody has more than FREE", x -> {
            for (int free = 0; free <= 21; free++) {
                int due = free >= 20 ? 20 : NO;
                house(x.fork(), new int[] {free}, new int[] {10, 10}).due("plan(2)", due);
            }
            house(x.fork(), new int[] {999}, new int[] {999}).due("plan(1)", 999).set("free(0, 998)").refused("plan(1)", NO);
            house(x.fork(), new int[] {5994}, new int[] {999, 999, 999, 999, 999, 999}).due("plan(6)", 5994).set("free(0, 5993)").refused("plan(6)", NO);
        });
        Edge.test(35, "so that nobody has more than FREE", x -> {
            house(x, new int[] {10, 10}, new int[] {10, 10}).due("plan(4)", 20).refused("plan(3)", SPENT).due("planned(4, 0)", 0).due("planned(4, 1)", 1);
            x.due("free(0, 10)", 10).due("free(1, 9)", 10).refused("plan(4)", NO);
        });
    }

    private static void costs() {
        Edge.test(35, "it COSTS PARTS times RATE / 10 for each TASK, cut", x -> {
            x.set("client()", "matter(0, 0, 0)", "person(0, 1)", "free(0, 9999)");
            x.fork().times(6, "task(0, 9, 0)").due("plan(6)", 0);
            x.fork().times(6, "task(0, 10, 0)").due("plan(6)", 6);
            x.fork().times(6, "task(0, 19, 0)").due("plan(6)", 6);
            x.fork().set("person(2, 999)", "free(1, 9999)").times(6, "task(0, 999, 2)").due("plan(6)", 598800);
        });
        Edge.test(35, "THE PLAN: that which COSTS least", x -> {
            // the first one for the first task would leave the other to the dearest
            x.set("client()", "matter(0, 0, 0)", "person(1, 10)", "person(0, 20)", "person(2, 100)", "free(0, 10)", "free(1, 10)", "free(2, 10)", "task(0, 10, 0)", "task(0, 10, 1)");
            x.due("plan(7)", 30).due("planned(7, 0)", 1).due("planned(7, 1)", 0).refused("plan(6)", SPENT);
        });
    }

    private static void firstOfSeveral() {
        Edge.test(35, "of several the first (by PEOPLE, TASK by TASK)", x -> {
            house(x, new int[] {10, 10, 10}, new int[] {10, 10, 10}).due("planned(15, 0)", 0).due("planned(15, 1)", 1).due("planned(15, 2)", 2);
        });
        Edge.test(35, "of several the first (by PEOPLE, TASK by TASK)", x -> {
            house(x, new int[] {20, 20}, new int[] {10, 10}).due("planned(6, 0)", 0).due("planned(6, 1)", 0).set("person(0, 9)", "free(2, 10)");
            x.due("plan(30000)", 19).due("planned(30000, 0)", 0).due("planned(30000, 1)", 2);
        });
        Edge.test(35, "of several the first (by PEOPLE, TASK by TASK)", x -> {
            // 9 parts at 11 and at 12 are 9 and 10, at 10 and 11 both 9
            x.set("client()", "matter(0, 0, 0)", "person(0, 12)", "person(0, 11)", "person(0, 10)", "free(0, 9)", "free(1, 9)", "free(2, 9)", "task(0, 9, 0)").due("plan(3)", 9).due("planned(3, 0)", 1);
        });
    }

    private static void planned() {
        Edge.test(36, "The PERSON for a TASK in THE PLAN (found anew). BAD: tries, task; SPENT; NO.", x -> {
            x.bad("planned(1, 0)", "planned(30000, -1)");
            house(x, new int[] {5, 5}, new int[] {5, 5}).range("planned(30000, ?)", 0, 1).due("planned(4, 0)", 0).due("planned(30000, 0)", 0).refused("planned(3, 0)", SPENT);
            x.bad("planned(0, 0)", "planned(-1, 0)", "planned(30001, 0)", "planned(0, 2)", "planned(1, 2)").refused("planned(1, 0)", SPENT).refused("planned(3, 1)", SPENT);
            x.times(4, "task(0, 1, 2)").bad("planned(30000, 6)", "planned(30000, -1)", "planned(MIN, 6)", "planned(MAX, 0)");
            for (int t = 0; t < 6; t++) x.refused("planned(30000, " + t + ")", NO);
        });
        Edge.test(36, "(found anew)", x -> {
            house(x, new int[] {5}, new int[] {5}).due("planned(1, 0)", 0).set("person(0, 1)", "free(1, 5)").due("planned(2, 0)", 1).set("wall(1, 0, 1)").due("planned(1, 0)", 0);
        });
        Edge.test(36, "BAD: tries, task; SPENT; NO.", x -> {
            house(x, new int[] {5, 5}, new int[] {5, 6}).bad("planned(0, 0)", "planned(1, 2)", "planned(1, -1)").refused("planned(1, 1)", SPENT).refused("planned(2, 1)", NO);
        });
    }

    private static void tell() {
        Edge.test(37, "One more number waits: how many. FULL: 20 wait.", x -> {
            for (int i = 1; i <= 20; i++) x.due("count(8)", i - 1).due("tell(" + new int[] {MIN, -1, 0, 1, MAX}[i % 5] + ")", i);
            x.refused("tell(0)", FULL).refused("tell(MIN)", FULL).due("count(8)", 20).due("check()", 1).due("tell(7)", 1);
        });
    }

    private static Edge tellAll(Edge x, int many, int... numbers) {
        for (int i = 0; i < many; i++) x.set("tell(" + numbers[i] + ")");
        return x;
    }

    private static void rows() {
        int[] rows = {1, 16, 0, 32, 2, 1030, 0, 1031, 0, 1032, 1, 1033};
        Edge.test(38, "else 1 and how many stand right ahead of the first that is not (or is missing, or one too many)", x -> {
            // 11 parts at 15 are 16; 16 at 10 are 16; 998 at 10 are 998; then one coin each
            x.set("client()", "matter(0, 0, 0)", "person(0, 10)", "person(0, 15)", "person(2, 10)", "free(0, 18)", "free(1, 12)", "free(2, 999)");
            x.set("task(0, 11, 0)", "task(0, 16, 0)", "task(0, 998, 2)", "task(0, 1, 0)", "task(0, 1, 0)", "task(0, 1, 0)").due("plan(30000)", 1033);
            tellAll(x.fork(), 12, rows).due("check()", 0).due("count(8)", 0).due("check()", 1);
            for (int right = 0; right <= 12; right++) {
                tellAll(x.fork(), right, rows).due("check()", right == 12 ? 0 : 1 + right);
                for (int off : new int[] {-1, 1, MIN}) {
                    if (right < 12) tellAll(tellAll(x.fork(), right, rows), 1, rows[right] + off).due("check()", 1 + right);
                    if (right < 11) tellAll(tellAll(x.fork(), right, rows), 2, rows[right] + off, rows[right + 1]).due("check()", 1 + right);
                }
            }
            tellAll(tellAll(x.fork(), 12, rows), 1, 0).due("check()", 13).due("count(8)", 0);
            tellAll(tellAll(x.fork(), 12, rows), 8, 0, 0, 0, 0, 0, 0, 0, 0).refused("tell(0)", FULL).due("check()", 13);
        });
        Edge.test(38, "ROWS: of each TASK its PERSON, and what all COSTS till then.", x -> {
            x.due("check()", 0).set("tell(0)").due("check()", 1).times(20, "tell(0)").due("check()", 1).due("count(8)", 0).due("check()", 0);
        });
        Edge.test(38, "ROWS: of each TASK its PERSON, and what all COSTS till then.", x -> {
            house(x, new int[] {9}, new int[] {9}).due("check()", 1).set("tell(0)").due("check()", 2).set("tell(0)", "tell(9)").due("check()", 0).set("tell(9)", "tell(0)").due("check()", 1);
        });
    }

    private static void checkRefused() {
        Edge.test(38, "The numbers that wait (none do then, whatever is answered)", x -> {
            house(x, new int[] {9}, new int[] {10}).refused("check()", NO).times(20, "tell(1)").refused("check()", NO).due("count(8)", 0).due("tell(5)", 1);
        });
        Edge.test(38, "(with 30000 TRIES)", x -> {
            tellAll(house(x.fork(), new int[] {3, 9, 6, 8, 1, 9, 6, 8}, new int[] {1, 2, 1, 1, 1}), 10, 0, 1, 0, 3, 1, 4, 1, 5, 1, 6).due("check()", 0);
            tellAll(house(x.fork(), new int[] {6, 6, 5, 7, 2, 2}, new int[] {2, 1, 1, 2, 2, 2}), 2, 0, 2).refused("check()", SPENT).due("count(8)", 0);
        });
    }
}
