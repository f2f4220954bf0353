/** Boundaries of promises 11 to 16: entries, doors, days as they were known, what entries are worth and are charged. */
public final class EdgeEntryTests {
    private static final int NO = Edge.NO, FULL = Edge.FULL, NONE = Edge.NONE;
    private static final int[] SPANS = {1, 2, 239, 240, 1001, 1239, 120001, 120120, 238002, 239001};
    private static final int[] NO_SPANS = {0, 241, 242, 999, 1000, 1240, 1999, 120000, 120121, 238003, 239000, 239002, 239999, 240000,
        240001, 240240, 241001, 999001, 1000001, -1, -2, -240, -999, -1000, -1001, -239001, Edge.NONE, Edge.MIN, Edge.MIN + 1, Edge.MAX - 1, Edge.MAX,
        // as they would be if 1000 * from and n wrapped around, or were cut to fewer bits
        65536 + 5, 1 << 24 | 5, 1073741825};

    public static void main(String[] args) {
        entriesTold();
        entriesRefused();
        withdrawn();
        doors();
        written();
        over();
        doubled();
        beyond();
        known();
        told();
        worths();
        caps();
        trials();
        months();
        Edge.end(11, 16);
    }

    private static void entriesTold() {
        Edge.test(11, "from a PART on, n PARTS (within the DAY)", x -> {
            x.small();
            for (int span : SPANS) {
                x.fork().due("entry(0, 0, 0, " + span + ", 0)", 0).due("told(0, 3)", span / 1000).due("told(0, 4)", span % 1000);
            }
        });
        Edge.test(11, "A DAY has PARTS 0 .. 239.", x -> {
            x.small();
            for (int span : NO_SPANS) x.bad("entry(0, 0, 0, " + span + ", 0)");
        });
        Edge.test(11, "PARTS told as 1000 * from and n.", x -> {
            x.small().due("entry(0, 0, 0, 7011, 0)", 0).due("told(0, 3)", 7).due("told(0, 4)", 11).due("written(0, 0, 0, 0)", 11);
        });
        Edge.test(11, "on a DAY (0 .. TODAY)", x -> {
            x.small().range("entry(0, 0, ?, 1, 0)", 0, 0).set("days(1)").range("entry(0, 0, ?, 1, 0)", 0, 1);
            x.times(8, "days(100)").set("days(99)").range("entry(0, 0, ?, 1, 0)", 0, 900);
        });
        Edge.test(11, "a CODE 0 .. 5 (5 is TRAVEL)", x -> x.small().range("entry(0, 0, 0, 1, ?)", 0, 5));
        Edge.test(11, "TOLD TODAY; one may be WITHDRAWN TODAY.", x -> {
            x.small().set("entry(0, 0, 0, 1, 0)", "days(9)", "entry(0, 0, 0, 1, 0)", "days(1)", "withdraw(0)");
            x.due("told(0, 6)", 0).due("told(1, 6)", 9).due("told(0, 7)", 10).due("told(1, 7)", NONE);
        });
    }

    private static void entriesRefused() {
        Edge.test(11, "of a PERSON for a MATTER", x -> {
            x.set("client()", "matter(0, 0, 0)").bad("entry(0, 0, 0, 1, 0)").set("person(0, 1)");
            x.range("entry(?, 0, 0, 1, 0)", 0, 0).range("entry(0, ?, 0, 1, 0)", 0, 0);
            x.times(7, "person(0, 1)").times(9, "matter(0, 0, 0)").range("entry(?, 0, 0, 1, 0)", 0, 7).range("entry(0, ?, 0, 1, 0)", 0, 9);
        });
        Edge.test(11, "of a PERSON for a MATTER", x -> x.set("client()", "person(0, 1)").bad("entry(0, 0, 0, 1, 0)"));
        Edge.test(11, "NO: a WALL", x -> {
            x.small().set("person(1, 1)", "matter(0, 0, 0)", "wall(0, 1, 1)").refused("entry(0, 1, 0, 1, 0)", NO);
            x.due("entry(0, 0, 0, 1, 0)", 0).due("entry(1, 1, 0, 1, 0)", 1).set("wall(0, 1, 0)").due("entry(0, 1, 0, 1, 0)", 2);
        });
        Edge.test(11, "NO: a WALL", x -> {
            x.small().set("entry(0, 0, 0, 5, 0)", "wall(0, 0, 1)").due("told(0, 4)", 5).due("worth(0, 0, 2)", 35).due("written(0, 0, 0, 0)", 5);
            x.due("bill(0, 0, 0)", 0).due("about(0, 2)", 35).refused("entry(0, 0, 0, 5, 0)", NO);
        });
        Edge.test(11, "BAD; NO: a WALL; FULL.", x -> {
            x.small().set("wall(0, 0, 1)");
            x.bad("entry(1, 0, 0, 1, 0)", "entry(0, 1, 0, 1, 0)", "entry(0, 0, 1, 1, 0)", "entry(0, 0, 0, 0, 0)", "entry(0, 0, 0, 241, 0)", "entry(0, 0, 0, 1, 6)");
            x.refused("entry(0, 0, 0, 1, 0)", NO);
        });
        Edge.test(11, "ENTRIES, 90 at most, numbered from 0", x -> {
            x.small().set("person(0, 1)");
            for (int i = 0; i < 90; i++) x.due("entry(0, 0, 0, 1, 0)", i);
            x.refused("entry(0, 0, 0, 1, 0)", FULL).set("withdraw(89)").refused("entry(0, 0, 0, 1, 0)", FULL).due("count(3)", 90);
            x.set("wall(1, 0, 1)").refused("entry(1, 0, 0, 1, 0)", NO).bad("entry(0, 0, 1, 1, 0)", "entry(1, 0, 0, 241, 0)", "entry(0, 0, 0, 1, -1)");
        });
    }

    private static void withdrawn() {
        Edge.test(12, "An ENTRY is WITHDRAWN: 1. BAD", x -> {
            x.small().bad("withdraw(0)", "withdraw(-1)").set("entry(0, 0, 0, 1, 0)").range("withdraw(?)", 0, 0);
            x.times(89, "entry(0, 0, 0, 1, 0)").range("withdraw(?)", 0, 89).due("withdraw(89)", 1).due("told(89, 7)", 0).due("told(88, 7)", NONE);
        });
        Edge.test(12, "NO: it is, or is in a BILL.", x -> {
            x.small().times(3, "entry(0, 0, 0, 1, 0)").due("withdraw(1)", 1).refused("withdraw(1)", NO).set("days(5)").refused("withdraw(1)", NO);
            x.due("told(1, 7)", 0).set("bill(0, 5, 0)").refused("withdraw(0)", NO).refused("withdraw(1)", NO).refused("withdraw(2)", NO);
            x.due("told(1, 8)", NONE).due("told(0, 8)", 0).bad("withdraw(3)");
        });
        Edge.test(12, "(they can't be WITHDRAWN any more", x -> {
            x.small().set("days(2)", "entry(0, 0, 1, 1, 0)", "entry(0, 0, 2, 1, 0)", "bill(0, 1, 0)").refused("withdraw(0)", NO).due("withdraw(1)", 1);
        });
    }

    private static void doors() {
        Edge.test(13, "a PERSON was there on a DAY from a PART on, n PARTS", x -> {
            x.small();
            for (int span : SPANS) {
                x.fork().set("entry(0, 0, 0, 240, 0)").due("door(0, 0, " + span + ")", 1).due("written(0, 0, 0, 3)", 240 - span % 1000);
            }
            for (int span : NO_SPANS) x.bad("door(0, 0, " + span + ")");
        });
        Edge.test(13, "A DOOR: how many there are; PARTS told likewise. BAD; FULL.", x -> {
            x.bad("door(0, 0, 1)").small().range("door(?, 0, 1)", 0, 0).range("door(0, ?, 1)", 0, 0).times(7, "person(0, 1)").range("door(?, 0, 1)", 0, 7);
            x.set("days(7)").range("door(0, ?, 1)", 0, 7);
        });
        Edge.test(13, "DOORS, 60 at most", x -> {
            x.small();
            for (int i = 1; i <= 60; i++) x.due("door(0, 0, " + (1000 * i + 1) + ")", i);
            x.refused("door(0, 0, 1)", FULL).bad("door(1, 0, 1)", "door(0, 1, 1)", "door(0, 0, 0)", "door(0, 0, 241)").due("count(4)", 60);
            x.set("entry(0, 0, 0, 100, 0)").due("written(0, 0, 0, 3)", 40);
        });
        Edge.test(13, "A DOOR: how many there are", x -> {
            x.small().set("wall(0, 0, 1)").due("door(0, 0, 1)", 1).due("door(0, 0, 1)", 2);
        });
    }

    private static void written() {
        Edge.test(14, "Of a PERSON on a DAY AS KNOWN on one (both 0 .. TODAY)", x -> {
            x.small().range("written(?, 0, 0, 0)", 0, 0).range("written(0, ?, 0, 0)", 0, 0).range("written(0, 0, ?, 0)", 0, 0);
            x.times(7, "person(0, 1)").set("days(3)").range("written(?, 0, 0, 0)", 0, 7).range("written(0, ?, 0, 0)", 0, 3).range("written(0, 0, ?, 0)", 0, 3);
            x.times(8, "days(100)").set("days(97)").range("written(0, ?, 0, 3)", 0, 900).range("written(0, 0, ?, 3)", 0, 900);
        });
        Edge.test(14, "what 0 WRITTEN, 1 OVER, 2 DOUBLE, 3 BEYOND. BAD.", x -> x.small().range("written(0, 0, 0, ?)", 0, 3));
        Edge.test(14, "WRITTEN: PARTS of all ENTRIES together", x -> {
            x.small().set("person(1, 1)", "matter(0, 0, 0)").due("written(0, 0, 0, 0)", 0).times(90, "entry(0, 0, 0, 240, 0)");
            x.due("written(0, 0, 0, 0)", 21600).due("written(0, 0, 0, 1)", 21480).due("written(0, 0, 0, 2)", 240).due("written(1, 0, 0, 0)", 0);
        });
        Edge.test(14, "WRITTEN: PARTS of all ENTRIES together", x -> {
            x.small().set("person(1, 1)", "matter(0, 0, 0)", "days(1)", "entry(0, 0, 0, 3, 0)", "entry(0, 1, 0, 239001, 5)");
            x.set("entry(1, 0, 0, 50, 0)", "entry(0, 0, 1, 60, 0)").due("written(0, 0, 1, 0)", 4).due("written(0, 1, 1, 0)", 60).due("written(1, 0, 1, 0)", 50);
        });
    }

    private static void over() {
        Edge.test(14, "OVER: WRITTEN less HOLDS (a rule), 0 at least", x -> {
            x.small().due("written(0, 0, 0, 1)", 0).set("entry(0, 0, 0, 119, 0)").due("written(0, 0, 0, 1)", 0);
            x.set("entry(0, 0, 0, 1, 0)").due("written(0, 0, 0, 1)", 0).set("entry(0, 0, 0, 1, 0)").due("written(0, 0, 0, 1)", 1);
            x.set("rule(0, 0)").due("written(0, 0, 0, 1)", 121).set("rule(0, 121)").due("written(0, 0, 0, 1)", 0);
            x.set("rule(0, 240)").due("written(0, 0, 0, 1)", 0).set("entry(0, 0, 0, 120, 0)").due("written(0, 0, 0, 1)", 1);
        });
    }

    private static void doubled() {
        Edge.test(14, "DOUBLE: PARTS of the DAY in two ENTRIES or more", x -> {
            x.small().set("entry(0, 0, 0, 10010, 0)").due("written(0, 0, 0, 2)", 0);
            x.set("entry(0, 0, 0, 20010, 0)", "entry(0, 0, 0, 5005, 0)").due("written(0, 0, 0, 2)", 0);
            x.set("entry(0, 0, 0, 19001, 0)").due("written(0, 0, 0, 2)", 1).set("entry(0, 0, 0, 19001, 0)").due("written(0, 0, 0, 2)", 1);
            x.set("entry(0, 0, 0, 9002, 0)").due("written(0, 0, 0, 2)", 3);
            x.set("entry(0, 0, 0, 239001, 0)", "entry(0, 0, 0, 1, 0)").due("written(0, 0, 0, 2)", 3);
            x.set("entry(0, 0, 0, 240, 0)").due("written(0, 0, 0, 2)", 27).set("entry(0, 0, 0, 240, 0)").due("written(0, 0, 0, 2)", 240);
        });
        Edge.test(14, "DOUBLE: PARTS of the DAY in two ENTRIES or more", x -> {
            x.small().set("person(1, 1)", "days(1)", "entry(0, 0, 0, 9, 0)", "entry(1, 0, 0, 9, 0)", "entry(0, 0, 1, 9, 0)").due("written(0, 0, 1, 2)", 0);
        });
    }

    private static void beyond() {
        Edge.test(14, "(0 if no DOOR of that DAY is KNOWN)", x -> {
            x.small().set("person(1, 1)", "days(2)", "entry(0, 0, 1, 5009, 0)").due("written(0, 1, 2, 3)", 0);
            x.set("door(0, 0, 240)", "door(0, 2, 240)").due("written(0, 1, 2, 3)", 0).set("door(1, 1, 240)").due("written(0, 1, 2, 3)", 0);
            x.set("days(1)", "door(0, 1, 239001)").due("written(0, 1, 3, 3)", 9).due("written(0, 1, 2, 3)", 0);
        });
        Edge.test(14, "BEYOND: PARTS that are in some ENTRY and in no DOOR", x -> {
            x.small().set("entry(0, 0, 0, 10010, 0)", "entry(0, 0, 0, 15010, 0)", "door(0, 0, 9)").due("written(0, 0, 0, 3)", 15);
            x.set("door(0, 0, 9001)").due("written(0, 0, 0, 3)", 15).set("door(0, 0, 10001)").due("written(0, 0, 0, 3)", 14);
            x.set("door(0, 0, 25010)").due("written(0, 0, 0, 3)", 14).set("door(0, 0, 24010)").due("written(0, 0, 0, 3)", 13);
            x.set("door(0, 0, 24001)").due("written(0, 0, 0, 3)", 13).set("door(0, 0, 240)").due("written(0, 0, 0, 3)", 0);
        });
        Edge.test(14, "BEYOND: PARTS that are in some ENTRY and in no DOOR", x -> {
            x.small().set("door(0, 0, 120001)").due("written(0, 0, 0, 3)", 0).set("entry(0, 0, 0, 240, 0)").due("written(0, 0, 0, 3)", 239);
        });
    }

    private static void known() {
        Edge.test(14, "KNOWN on a DAY k: TOLD on k or ahead of it, and not WITHDRAWN on k or ahead of it.", x -> {
            x.small().set("days(5)", "entry(0, 0, 0, 7, 0)", "days(5)", "withdraw(0)", "days(1)");
            x.due("written(0, 0, 4, 0)", 0).due("written(0, 0, 5, 0)", 7).due("written(0, 0, 9, 0)", 7).due("written(0, 0, 10, 0)", 0).due("written(0, 0, 11, 0)", 0);
            x.due("written(0, 0, 0, 0)", 0).due("written(0, 5, 9, 0)", 0);
        });
        Edge.test(14, "KNOWN on a DAY k: TOLD on k or ahead of it, and not WITHDRAWN on k or ahead of it.", x -> {
            x.small().set("days(5)", "entry(0, 0, 0, 7, 0)", "withdraw(0)", "days(1)").due("written(0, 0, 4, 0)", 0).due("written(0, 0, 5, 0)", 0).due("written(0, 0, 6, 0)", 0);
        });
        Edge.test(14, "DOORS, 60 at most: a PERSON was there on a DAY from a PART on, n PARTS; TOLD TODAY.", x -> {
            x.small().set("entry(0, 0, 0, 7, 0)", "days(5)", "door(0, 0, 100001)", "days(1)");
            x.due("written(0, 0, 4, 3)", 0).due("written(0, 0, 5, 3)", 7).due("written(0, 0, 6, 3)", 7);
        });
        Edge.test(16, "KNOWN on a DAY k: TOLD on k or ahead of it, and not WITHDRAWN on k or ahead of it.", x -> {
            x.small().set("days(5)", "entry(0, 0, 0, 7, 0)", "days(5)", "withdraw(0)", "days(1)");
            x.refused("worth(0, 0, 0)", NO).refused("worth(0, 4, 0)", NO).due("worth(0, 5, 0)", 7).due("worth(0, 9, 0)", 7);
            x.refused("worth(0, 10, 0)", NO).refused("worth(0, 11, 3)", NO);
        });
        Edge.test(16, "NO: it is not KNOWN.", x -> {
            x.small().set("days(5)", "entry(0, 0, 0, 7, 0)", "withdraw(0)", "days(1)");
            for (int k = 0; k <= 6; k++) x.refused("worth(0, " + k + ", 2)", NO);
        });
    }

    private static void told() {
        Edge.test(15, "Of an ENTRY: what 0 PERSON, 1 MATTER, 2 DAY, 3 first PART, 4 PARTS, 5 CODE, 6 the DAY on which it was TOLD, 7 WITHDRAWN (NONE), 8 its BILL (NONE), "
            + "9 what was CHARGED in it (0), 10 CUT (NONE: not CONTESTED). BAD.", x -> {
            x.small().bad("told(0, 0)").set("person(0, 9)", "matter(0, 0, 0)", "days(3)", "entry(1, 1, 2, 239001, 5)");
            x.dues("told(0, ?)", 1, 1, 2, 239, 1, 5, 3, NONE, NONE, 0, NONE);
            x.bad("told(0, 11)", "told(0, -1)", "told(0, MIN)", "told(0, MAX)").range("told(?, 0)", 0, 0);
            x.times(89, "entry(0, 0, 0, 240, 0)").range("told(?, 4)", 0, 89).dues("told(89, ?)", 0, 0, 0, 0, 240, 0, 3, NONE, NONE, 0, NONE);
        });
        Edge.test(15, "7 WITHDRAWN (NONE)", x -> x.small().set("entry(0, 0, 0, 1, 0)", "withdraw(0)").due("told(0, 7)", 0));
        Edge.test(15, "8 its BILL (NONE), 9 what was CHARGED in it (0), 10 CUT (NONE: not CONTESTED)", x -> {
            x.small().set("matter(0, 0, 0)", "entry(0, 0, 0, 10, 0)", "bill(0, 0, 100)").due("told(0, 8)", 0).due("told(0, 9)", 70).due("told(0, 10)", NONE);
            x.set("entry(0, 1, 0, 10, 0)", "bill(1, 0, 0)").due("told(1, 8)", 1).due("contest(0)", 0).due("told(0, 10)", 0).due("told(1, 10)", NONE);
        });
        Edge.test(15, "9 what was CHARGED in it (0)", x -> {
            x.small().set("matter(1, 0, 50)", "entry(0, 1, 0, 10, 0)", "bill(1, 0, 0)").due("told(0, 8)", 0).due("told(0, 9)", 0).due("about(0, 2)", 50);
        });
    }

    private static void worths() {
        Edge.test(16, "Of an ENTRY that is KNOWN on a DAY (0 .. TODAY): what 0 COUNTED, 1 AT, 2 WORTH, 3 CHARGED as known then. BAD", x -> {
            x.small().bad("worth(0, 0, 0)").set("entry(0, 0, 0, 3, 0)").range("worth(?, 0, 0)", 0, 0).range("worth(0, ?, 0)", 0, 0).range("worth(0, 0, ?)", 0, 3);
            x.dues("worth(0, 0, ?)", 3, 70, 21, 21).set("days(9)").range("worth(0, ?, 3)", 0, 9);
        });
        Edge.test(16, "BAD; NO: it is not KNOWN.", x -> {
            x.small().set("days(4)", "entry(0, 0, 0, 3, 0)", "withdraw(0)").bad("worth(0, 4, 4)", "worth(0, 4, -1)", "worth(0, 5, 0)", "worth(0, -1, 0)", "worth(1, 4, 0)");
            x.refused("worth(0, 4, 0)", NO).refused("worth(0, 3, 3)", NO);
        });
        Edge.test(16, "without TERMS PARTS and RATE", x -> {
            x.set("person(0, 999)", "person(0, 1)", "client()", "matter(0, 0, 0)", "entry(0, 0, 0, 240, 0)", "entry(1, 0, 0, 1, 0)", "entry(1, 0, 0, 19, 0)");
            x.dues("worth(0, 0, ?)", 240, 999, 23976, 23976).dues("worth(1, 0, ?)", 1, 1, 0, 0).dues("worth(2, 0, ?)", 19, 1, 1, 1);
        });
        Edge.test(16, "COUNTED: what E of parts gives, 0 .. 240", x -> {
            String[] texts = {"0", "1", "239", "240", "241", "99999", "0-1", "0-99999", "99999*99999", "65536*32767", "65536*32768"};
            int[] counted = {0, 1, 239, 240, 240, 240, 0, 0, 240, 240, 0};
            x.small().set("entry(0, 0, 0, 3, 0)");
            for (int i = 0; i < texts.length; i++) x.fork().terms(0, 0, "parts " + texts[i] + " rate r").due("worth(0, 0, 0)", counted[i]);
        });
        Edge.test(16, "AT: what E of rate gives, 0 .. 9999", x -> {
            String[] texts = {"0", "1", "9998", "9999", "10000", "99999", "0-1", "0-99999", "99999*99999", "65536*32767", "65536*32768"};
            int[] at = {0, 1, 9998, 9999, 9999, 9999, 0, 0, 9999, 9999, 0};
            x.small().set("entry(0, 0, 0, 3, 0)");
            for (int i = 0; i < texts.length; i++) x.fork().terms(0, 0, "parts n rate " + texts[i]).due("worth(0, 0, 1)", at[i]);
        });
        Edge.test(16, "WORTH: COUNTED times AT / 10.", x -> {
            x.small().set("entry(0, 0, 0, 3, 0)");
            x.fork().terms(0, 0, "parts 240 rate 9999").dues("worth(0, 0, ?)", 240, 9999, 239976, 239976);
            x.fork().terms(0, 0, "parts 0 rate 9999").due("worth(0, 0, 2)", 0);
            x.fork().terms(0, 0, "parts 240 rate 0").due("worth(0, 0, 2)", 0);
            x.fork().terms(0, 0, "parts 9 rate 1").due("worth(0, 0, 2)", 0);
            x.fork().terms(0, 0, "parts 1 rate 19").due("worth(0, 0, 2)", 1);
            x.fork().terms(0, 0, "parts 500 rate 0-500").dues("worth(0, 0, ?)", 240, 0, 0, 0);
        });
    }

    private static void caps() {
        Edge.test(16, "each its WORTH as far as FEE still goes", x -> {
            x.set("person(0, 10)", "client()");
            for (int fee : new int[] {0, 1, 9, 10, 11, 29, 30, 31, 59, 60, 61, 99999}) {
                Edge y = x.fork().set("matter(2, 0, " + fee + ")", "entry(0, 0, 0, 10, 0)", "entry(0, 0, 0, 20, 5)", "entry(0, 0, 0, 30, 0)");
                y.due("worth(0, 0, 3)", Math.min(fee, 10)).due("worth(1, 0, 3)", Math.max(0, Math.min(fee - 10, 20))).due("worth(2, 0, 3)", Math.max(0, Math.min(fee - 30, 30)));
                y.due("worth(2, 0, 2)", 30).due("stage(0, 1)", Math.min(fee, 60));
            }
        });
        Edge.test(16, "ENTRIES by DAY, of one DAY by number (KNOWN ones)", x -> {
            x.set("person(0, 10)", "client()", "matter(2, 0, 100)", "days(9)", "entry(0, 0, 9, 60, 0)", "entry(0, 0, 8, 70, 0)", "entry(0, 0, 9, 50, 0)", "entry(0, 0, 8, 20, 0)");
            x.due("worth(0, 9, 3)", 10).due("worth(1, 9, 3)", 70).due("worth(2, 9, 3)", 0).due("worth(3, 9, 3)", 20);
            x.set("days(1)", "withdraw(1)").due("worth(0, 10, 3)", 60).due("worth(2, 10, 3)", 20).due("worth(3, 10, 3)", 20).due("worth(0, 9, 3)", 10).due("worth(1, 9, 3)", 70);
            x.set("days(1)", "entry(0, 0, 0, 95, 0)").due("worth(3, 11, 3)", 5).due("worth(0, 11, 3)", 0).due("worth(3, 10, 3)", 20).due("worth(0, 10, 3)", 60);
        });
        Edge.test(16, "of a FIXED MATTER 0", x -> {
            x.set("person(0, 10)", "client()", "matter(1, 0, 99999)", "entry(0, 0, 0, 240, 0)", "entry(0, 0, 0, 1, 5)").dues("worth(0, 0, ?)", 240, 10, 240, 0).due("worth(1, 0, 3)", 0);
        });
        Edge.test(16, "of others WORTH", x -> {
            x.set("person(0, 10)", "client()", "matter(0, 0, 1)", "entry(0, 0, 0, 240, 0)", "entry(0, 0, 0, 240, 5)").due("worth(0, 0, 3)", 240).due("worth(1, 0, 3)", 240);
        });
        Edge.test(16, "each its WORTH as far as FEE still goes", x -> {
            x.set("person(0, 10)", "client()", "matter(2, 0, 100)", "matter(2, 0, 100)", "matter(0, 0, 100)");
            x.set("entry(0, 0, 0, 80, 0)", "entry(0, 1, 0, 80, 0)", "entry(0, 2, 0, 80, 0)", "entry(0, 0, 0, 80, 0)");
            x.due("worth(1, 0, 3)", 80).due("worth(2, 0, 3)", 80).due("worth(3, 0, 3)", 20);
        });
    }

    private static void trials() {
        Edge.test(16, "of a TRIAL likewise, but TRAVEL its WORTH whole, aside of FEE", x -> {
            x.set("person(0, 10)", "client()");
            for (int fee : new int[] {0, 1, 39, 40, 41, 100}) {
                Edge y = x.fork().set("matter(3, 0, " + fee + ")", "entry(0, 0, 0, 200, 5)", "entry(0, 0, 0, 40, 4)", "entry(0, 0, 0, 200, 5)", "entry(0, 0, 0, 60, 0)");
                y.due("worth(0, 0, 3)", 200).due("worth(1, 0, 3)", Math.min(40, fee)).due("worth(2, 0, 3)", 200).due("worth(3, 0, 3)", Math.max(0, Math.min(60, fee - 40)));
            }
        });
        Edge.test(16, "a CODE 0 .. 5 (5 is TRAVEL)", x -> {
            x.set("person(0, 10)", "client()", "matter(3, 0, 0)", "matter(2, 0, 0)");
            for (int code = 0; code <= 5; code++) x.set("entry(0, 0, 0, 9, " + code + ")", "entry(0, 1, 0, 9, " + code + ")");
            for (int e = 0; e < 12; e++) x.due("worth(" + e + ", 0, 3)", e == 10 ? 9 : 0);
        });
    }

    private static void months() {
        Edge.test(16, "MONTH of a DAY: it by 30.", x -> {
            x.set("person(0, 10)", "client()", "matter(2, 0, 10)").times(9, "days(100)");
            int[] days = {0, 29, 30, 59, 60, 869, 870, 899, 900};
            int[] charged = {8, 2, 8, 2, 8, 8, 8, 2, 8};
            for (int day : days) x.set("entry(0, 0, " + day + ", 8, 0)");
            for (int e = 0; e < days.length; e++) x.due("worth(" + e + ", 900, 3)", charged[e]);
        });
        Edge.test(16, "in each MONTH, ENTRIES by DAY", x -> {
            x.set("person(0, 10)", "client()", "matter(3, 0, 10)", "days(61)");
            x.set("entry(0, 0, 60, 8, 0)", "entry(0, 0, 30, 8, 0)", "entry(0, 0, 29, 8, 0)", "entry(0, 0, 59, 8, 5)", "entry(0, 0, 59, 8, 0)", "entry(0, 0, 28, 8, 5)", "entry(0, 0, 0, 8, 0)");
            int[] charged = {8, 8, 2, 8, 2, 8, 8};
            for (int e = 0; e < 7; e++) x.due("worth(" + e + ", 61, 3)", charged[e]);
        });
    }
}
