import java.lang.reflect.Constructor;
import java.lang.reflect.Field;
import java.lang.reflect.Member;
import java.lang.reflect.Method;
import java.lang.reflect.Modifier;

/** For each promise of the document calls with the answers that are due, worked out by hand. */
public final class PromiseTests {
    private static final int BAD = HourHouse.BAD, NO = HourHouse.NO, FULL = HourHouse.FULL, SPENT = HourHouse.SPENT;
    private static final int NONE = HourHouse.NONE, NOTHING = HourHouse.NOTHING, INDEX = HourHouse.INDEX, SIZE = HourHouse.SIZE;
    private static final int LEAST = Integer.MIN_VALUE, MOST = Integer.MAX_VALUE;

    private static final int[] asked = new int[45];
    private static int promise = 0;
    private static int wrong = 0;

    public static void main(String[] args) {
        face();
        people();
        matters();
        walls();
        days();
        entries();
        writtenOnDays();
        worths();
        caps();
        tape();
        texts();
        faults();
        sums();
        names();
        termsByDays();
        bills();
        fixedBills();
        trustCoin();
        interest();
        contests();
        stages();
        tasks();
        plans();
        rows();
        images();
        sheets();
        counts();
        int all = 0;
        for (int p = 1; p <= 44; p++) {
            promise = p;
            due("at least one test", asked[p] > 0 ? 1 : 0, 1);
            all += asked[p];
        }
        System.out.println(wrong == 0 ? all + " answers are as due" : wrong + " answers are not as due");
        if (wrong != 0) System.exit(1);
    }

    private static void due(String call, int got, int want) {
        asked[promise]++;
        if (got != want) {
            wrong++;
            System.out.println("promise " + promise + ": " + call + " answered " + got + ", due is " + want);
        }
    }

    /** Puts a text on the tape, which must be empty. */
    private static void put(HourHouse x, String text) {
        byte[] row = new byte[(text.length() + 11) / 12 * 12];
        for (int i = 0; i < text.length(); i++) row[i] = (byte) text.charAt(i);
        for (int i = 0; i < row.length; i += 12) x.feed(four(row, i), four(row, i + 4), four(row, i + 8));
        x.trim(text.length());
    }

    private static int four(byte[] row, int at) {
        return row[at] << 24 | (row[at + 1] & 255) << 16 | (row[at + 2] & 255) << 8 | (row[at + 3] & 255);
    }

    private static int terms(HourHouse x, int client, int day, String text) {
        put(x, text);
        return x.terms(client, day);
    }

    /** What a text gives for an entry of 10 parts by a lawyer at 70. */
    private static int counted(String e) {
        HourHouse x = small();
        x.entry(0, 0, 0, 10, 3);
        return terms(x, 0, 0, "parts " + e + " rate 1") < 0 ? BAD : x.worth(0, 0, 0);
    }

    private static int at(String e) {
        HourHouse x = small();
        x.entry(0, 0, 0, 10, 3);
        return terms(x, 0, 0, "parts 1 rate " + e) < 0 ? BAD : x.worth(0, 0, 1);
    }

    /** One lawyer at 70, one client, one matter of the plainest kind. */
    private static HourHouse small() {
        HourHouse x = new HourHouse();
        x.person(1, 70);
        x.client();
        x.matter(0, 0, 0);
        return x;
    }

    private static void face() {
        promise = 1;
        HourHouse x = new HourHouse();
        for (int what = 0; what <= 12; what++) due("count(" + what + ")", x.count(what), 0);
        due("is(0, 0)", x.is(0, 0), BAD);
        due("isOf(0, 0)", x.isOf(0, 0), BAD);
        due("told(0, 0)", x.told(0, 0), BAD);
        due("about(0, 0)", x.about(0, 0), BAD);
        due("back()", x.back(), NO);
        due("lay(0)", x.lay(0), NOTHING);
        due("lay(1)", x.lay(1), NOTHING);
        due("plan(1)", x.plan(1), 0);
        due("check()", x.check(), 0);
        int open = 0;
        for (Method m : HourHouse.class.getDeclaredMethods()) open += isOpen(m) ? 1 : 0;
        due("methods that can be seen", open, 43);
        open = 0;
        for (Field f : HourHouse.class.getDeclaredFields()) open += isOpen(f) ? 1 : 0;
        due("constants that can be seen", open, 8);
        open = 0;
        for (Constructor<?> c : HourHouse.class.getDeclaredConstructors()) open += isOpen(c) ? 1 : 0;
        due("constructors", open, 1);
        due("final", Modifier.isFinal(HourHouse.class.getModifiers()) ? 1 : 0, 1);
    }

    private static boolean isOpen(Member m) {
        return !Modifier.isPrivate(m.getModifiers()) && !m.isSynthetic();
    }

    private static void people() {
        HourHouse x = new HourHouse();
        promise = 2;
        due("person(0, 1)", x.person(0, 1), 0);
        due("person(1, 999)", x.person(1, 999), 1);
        due("person(2, 5)", x.person(2, 5), 2);
        due("person(3, 5)", x.person(3, 5), 3);
        due("person(-1, 5)", x.person(-1, 5), BAD);
        due("person(4, 5)", x.person(4, 5), BAD);
        due("person(0, 0)", x.person(0, 0), BAD);
        due("person(0, 1000)", x.person(0, 1000), BAD);
        due("person(0, LEAST)", x.person(0, LEAST), BAD);
        promise = 3;
        int[][] is = {{1, 0, 0, 0}, {1, 1, 0, 0}, {1, 1, 1, 0}, {1, 0, 0, 1}};
        for (int p = 0; p < 4; p++) {
            for (int k = 0; k < 4; k++) due("is(" + p + ", " + k + ")", x.is(p, k), is[p][k]);
        }
        due("is(4, 0)", x.is(4, 0), BAD);
        due("is(-1, 0)", x.is(-1, 0), BAD);
        due("is(0, 4)", x.is(0, 4), BAD);
        due("is(0, -1)", x.is(0, -1), BAD);
        promise = 2;
        for (int i = 4; i < 8; i++) due("person(0, 7)", x.person(0, 7), i);
        due("person(0, 7)", x.person(0, 7), FULL);
        due("person(4, 7)", x.person(4, 7), BAD);
        due("count(0)", x.count(0), 8);
    }

    private static void matters() {
        HourHouse x = new HourHouse();
        promise = 5;
        due("matter(0, 0, 0)", x.matter(0, 0, 0), BAD);
        promise = 4;
        for (int i = 0; i < 5; i++) due("client()", x.client(), i);
        due("client()", x.client(), FULL);
        due("count(1)", x.count(1), 5);
        promise = 5;
        for (int k = 0; k < 4; k++) due("matter(" + k + ", 4, 99999)", x.matter(k, 4, 99999), k);
        due("matter(-1, 0, 0)", x.matter(-1, 0, 0), BAD);
        due("matter(4, 0, 0)", x.matter(4, 0, 0), BAD);
        due("matter(0, 5, 0)", x.matter(0, 5, 0), BAD);
        due("matter(0, -1, 0)", x.matter(0, -1, 0), BAD);
        due("matter(0, 0, -1)", x.matter(0, 0, -1), BAD);
        due("matter(0, 0, 100000)", x.matter(0, 0, 100000), BAD);
        promise = 6;
        int[][] is = {{1, 0, 0, 0}, {1, 1, 0, 0}, {1, 0, 1, 0}, {1, 0, 1, 1}};
        for (int m = 0; m < 4; m++) {
            for (int k = 0; k < 4; k++) due("isOf(" + m + ", " + k + ")", x.isOf(m, k), is[m][k]);
        }
        due("isOf(4, 0)", x.isOf(4, 0), BAD);
        due("isOf(-1, 0)", x.isOf(-1, 0), BAD);
        due("isOf(0, 4)", x.isOf(0, 4), BAD);
        due("isOf(0, -1)", x.isOf(0, -1), BAD);
        promise = 5;
        for (int i = 4; i < 10; i++) due("matter(0, 0, 0)", x.matter(0, 0, 0), i);
        due("matter(0, 0, 0)", x.matter(0, 0, 0), FULL);
        due("matter(0, 9, 0)", x.matter(0, 9, 0), BAD);
        promise = 7;
        due("payers(0, 101, NONE, NONE)", x.payers(0, 101, NONE, NONE), 1);
        due("payers(0, 199, 1, NONE)", x.payers(0, 199, 1, NONE), 2);
        due("payers(0, 499, 1, 350)", x.payers(0, 499, 1, 350), 3);
        due("payers(10, 1, NONE, NONE)", x.payers(10, 1, NONE, NONE), BAD);
        due("payers(-1, 1, NONE, NONE)", x.payers(-1, 1, NONE, NONE), BAD);
        due("payers(0, NONE, NONE, NONE)", x.payers(0, NONE, NONE, NONE), BAD);
        due("payers(0, NONE, 1, NONE)", x.payers(0, NONE, 1, NONE), BAD);
        due("payers(0, 1, NONE, 101)", x.payers(0, 1, NONE, 101), BAD);
        due("payers(0, 1, 2, NONE)", x.payers(0, 1, 2, NONE), BAD);
        due("payers(0, 1, 101, 2)", x.payers(0, 1, 101, 2), BAD);
        due("payers(0, 1, 101, 102)", x.payers(0, 1, 101, 102), BAD);
        due("payers(0, 100, NONE, NONE)", x.payers(0, 100, NONE, NONE), BAD);
        due("payers(0, 0, NONE, NONE)", x.payers(0, 0, NONE, NONE), BAD);
        due("payers(0, 501, NONE, NONE)", x.payers(0, 501, NONE, NONE), BAD);
        due("payers(0, -1, NONE, NONE)", x.payers(0, -1, NONE, NONE), BAD);
        due("payers(0, 1, -99, NONE)", x.payers(0, 1, -99, NONE), BAD);
        due("payers(0, 1, 101, -1)", x.payers(0, 1, 101, -1), BAD);
        due("payers(0, 1, 101, 200)", x.payers(0, 1, 101, 200), BAD);
        int[][] twice = {{499, 401}, {401, 499}, {101, 199}, {199, 101}};
        for (int[] t : twice) {
            due("payers(0, " + t[0] + ", " + t[1] + ", NONE)", x.payers(0, t[0], t[1], NONE), BAD);
            due("payers(0, " + t[0] + ", 1, " + t[1] + ")", x.payers(0, t[0], 1, t[1]), BAD);
            due("payers(0, 1, " + t[0] + ", " + t[1] + ")", x.payers(0, 1, t[0], t[1]), BAD);
        }
        int[][] apart = {{301, 299}, {299, 301}, {401, 399}, {399, 401}, {399, 401}};
        for (int[] t : apart) {
            due("payers(0, " + t[0] + ", " + t[1] + ", NONE)", x.payers(0, t[0], t[1], NONE), 2);
            due("payers(0, " + t[0] + ", 1, " + t[1] + ")", x.payers(0, t[0], 1, t[1]), 3);
            due("payers(0, 1, " + t[0] + ", " + t[1] + ")", x.payers(0, 1, t[0], t[1]), 3);
        }
        due("payers(0, 401, 1, 350)", x.payers(0, 401, 1, 350), 3);
        due("bill(0, 0, 0)", x.bill(0, 0, 0), 0);
        due("payers(0, 1, NONE, NONE)", x.payers(0, 1, NONE, NONE), NO);
        due("payers(0, 0, NONE, NONE)", x.payers(0, 0, NONE, NONE), BAD);
        due("pay(0, 4, 1)", x.pay(0, 4, 1), 1);
        due("pay(0, 3, 1)", x.pay(0, 3, 1), 1);
        due("pay(0, 1, 1)", x.pay(0, 1, 1), NO);
        due("payers(1, 1, NONE, NONE)", x.payers(1, 1, NONE, NONE), 1);
        due("bill(1, 0, 0)", x.bill(1, 0, 0), 1);
        due("owes(1, 0, 0)", x.owes(1, 0, 0), 99999);
        due("owes(1, 4, 0)", x.owes(1, 4, 0), 0);
        due("bill(2, 0, 0)", x.bill(2, 0, 0), 2);
        due("pay(2, 0, 1), its client alone pays at first", x.pay(2, 0, 1), NO);
        due("pay(2, 4, 1)", x.pay(2, 4, 1), 1);
    }

    private static void walls() {
        promise = 8;
        HourHouse x = small();
        due("wall(0, 0, 0)", x.wall(0, 0, 0), 0);
        due("wall(0, 0, 1)", x.wall(0, 0, 1), 0);
        due("wall(0, 0, 1)", x.wall(0, 0, 1), 1);
        due("entry(0, 0, 0, 1, 0)", x.entry(0, 0, 0, 1, 0), NO);
        due("wall(0, 0, 0)", x.wall(0, 0, 0), 1);
        due("wall(0, 0, 0)", x.wall(0, 0, 0), 0);
        due("entry(0, 0, 0, 1, 0)", x.entry(0, 0, 0, 1, 0), 0);
        due("wall(1, 0, 1)", x.wall(1, 0, 1), BAD);
        due("wall(-1, 0, 1)", x.wall(-1, 0, 1), BAD);
        due("wall(0, 1, 1)", x.wall(0, 1, 1), BAD);
        due("wall(0, -1, 1)", x.wall(0, -1, 1), BAD);
        due("wall(0, 0, 2)", x.wall(0, 0, 2), BAD);
        due("wall(0, 0, -1)", x.wall(0, 0, -1), BAD);
        x.matter(0, 0, 0);
        x.person(0, 1);
        x.wall(0, 1, 1);
        due("entry(0, 0, 0, 1, 0), the wall is to another matter", x.entry(0, 0, 0, 1, 0), 1);
        due("entry(1, 1, 0, 1, 0), the wall is to another person", x.entry(1, 1, 0, 1, 0), 2);
        due("entry(0, 1, 0, 1, 0)", x.entry(0, 1, 0, 1, 0), NO);
        HourHouse y = small();
        for (int i = 1; i < 8; i++) y.person(0, 1);
        for (int i = 1; i < 10; i++) y.matter(0, 0, 0);
        for (int i = 0; i < 80; i++) {
            if (i % 3 == 0) y.wall(i % 8, i / 8, 1);
        }
        for (int i = 0; i < 80; i++) due("wall " + i, y.wall(i % 8, i / 8, 0), i % 3 == 0 ? 1 : 0);
    }

    private static void days() {
        promise = 9;
        HourHouse x = new HourHouse();
        due("days(0)", x.days(0), BAD);
        due("days(101)", x.days(101), BAD);
        due("days(-1)", x.days(-1), BAD);
        due("days(1)", x.days(1), 1);
        for (int i = 1; i <= 8; i++) due("days(100)", x.days(100), 1 + 100 * i);
        due("days(100)", x.days(100), BAD);
        due("days(99)", x.days(99), 900);
        due("days(1)", x.days(1), BAD);
        due("days(MOST)", x.days(MOST), BAD);
        due("count(10)", x.count(10), 900);
        promise = 10;
        due("rule(0, 240)", x.rule(0, 240), 120);
        due("rule(0, 0)", x.rule(0, 0), 240);
        due("rule(0, 241)", x.rule(0, 241), BAD);
        due("rule(0, -1)", x.rule(0, -1), BAD);
        due("rule(1, 100)", x.rule(1, 100), 8);
        due("rule(1, 101)", x.rule(1, 101), BAD);
        due("rule(1, 0)", x.rule(1, 0), 100);
        due("rule(2, 900)", x.rule(2, 900), 30);
        due("rule(2, 901)", x.rule(2, 901), BAD);
        due("rule(2, 0)", x.rule(2, 0), 900);
        due("rule(3, 0)", x.rule(3, 0), BAD);
        due("rule(-1, 0)", x.rule(-1, 0), BAD);
        due("rule(0, 5)", x.rule(0, 5), 0);
    }

    private static void entries() {
        HourHouse x = small();
        x.days(5);
        promise = 11;
        due("entry(0, 0, 5, 240, 5)", x.entry(0, 0, 5, 240, 5), 0);
        due("entry(0, 0, 0, 239001, 0)", x.entry(0, 0, 0, 239001, 0), 1);
        due("entry(1, 0, 0, 1, 0)", x.entry(1, 0, 0, 1, 0), BAD);
        due("entry(-1, 0, 0, 1, 0)", x.entry(-1, 0, 0, 1, 0), BAD);
        due("entry(0, 1, 0, 1, 0)", x.entry(0, 1, 0, 1, 0), BAD);
        due("entry(0, -1, 0, 1, 0)", x.entry(0, -1, 0, 1, 0), BAD);
        due("entry(0, 0, 6, 1, 0)", x.entry(0, 0, 6, 1, 0), BAD);
        due("entry(0, 0, -1, 1, 0)", x.entry(0, 0, -1, 1, 0), BAD);
        due("entry(0, 0, 0, 241, 0)", x.entry(0, 0, 0, 241, 0), BAD);
        due("entry(0, 0, 0, 239002, 0)", x.entry(0, 0, 0, 239002, 0), BAD);
        due("entry(0, 0, 0, 240001, 0)", x.entry(0, 0, 0, 240001, 0), BAD);
        due("entry(0, 0, 0, 0, 0)", x.entry(0, 0, 0, 0, 0), BAD);
        due("entry(0, 0, 0, 5000, 0)", x.entry(0, 0, 0, 5000, 0), BAD);
        due("entry(0, 0, 0, -1, 0)", x.entry(0, 0, 0, -1, 0), BAD);
        due("entry(0, 0, 0, LEAST, 0)", x.entry(0, 0, 0, LEAST, 0), BAD);
        due("entry(0, 0, 0, MOST, 0)", x.entry(0, 0, 0, MOST, 0), BAD);
        due("entry(0, 0, 0, 1, 6)", x.entry(0, 0, 0, 1, 6), BAD);
        due("entry(0, 0, 0, 1, -1)", x.entry(0, 0, 0, 1, -1), BAD);
        promise = 15;
        int[] told = {0, 0, 5, 0, 240, 5, 5, NONE, NONE, 0, NONE};
        for (int what = 0; what <= 10; what++) due("told(0, " + what + ")", x.told(0, what), told[what]);
        due("told(1, 3)", x.told(1, 3), 239);
        due("told(1, 4)", x.told(1, 4), 1);
        due("told(1, 2)", x.told(1, 2), 0);
        due("told(0, 11)", x.told(0, 11), BAD);
        due("told(0, -1)", x.told(0, -1), BAD);
        due("told(2, 0)", x.told(2, 0), BAD);
        due("told(-1, 0)", x.told(-1, 0), BAD);
        promise = 12;
        x.days(3);
        due("withdraw(0)", x.withdraw(0), 1);
        due("told(0, 7)", x.told(0, 7), 8);
        due("withdraw(0)", x.withdraw(0), NO);
        due("withdraw(2)", x.withdraw(2), BAD);
        due("withdraw(-1)", x.withdraw(-1), BAD);
        x.bill(0, 8, 0);
        due("withdraw(1)", x.withdraw(1), NO);
        promise = 15;
        due("told(0, 8), it is withdrawn", x.told(0, 8), NONE);
        due("told(1, 8)", x.told(1, 8), 0);
        due("told(1, 9)", x.told(1, 9), 7);
        promise = 11;
        for (int i = 2; i < 90; i++) due("entry(0, 0, 0, 1, 0)", x.entry(0, 0, 0, 1, 0), i);
        due("entry(0, 0, 0, 1, 0)", x.entry(0, 0, 0, 1, 0), FULL);
        x.wall(0, 0, 1);
        due("entry(0, 0, 0, 1, 0)", x.entry(0, 0, 0, 1, 0), NO);
        due("entry(0, 0, 9, 1, 0)", x.entry(0, 0, 9, 1, 0), BAD);
        due("count(3)", x.count(3), 90);
        promise = 13;
        HourHouse y = small();
        y.days(2);
        due("door(0, 0, 240)", y.door(0, 0, 240), 1);
        due("door(0, 2, 239001)", y.door(0, 2, 239001), 2);
        due("door(1, 0, 1)", y.door(1, 0, 1), BAD);
        due("door(-1, 0, 1)", y.door(-1, 0, 1), BAD);
        due("door(0, 3, 1)", y.door(0, 3, 1), BAD);
        due("door(0, -1, 1)", y.door(0, -1, 1), BAD);
        due("door(0, 0, 0)", y.door(0, 0, 0), BAD);
        due("door(0, 0, 241)", y.door(0, 0, 241), BAD);
        due("door(0, 0, 100141)", y.door(0, 0, 100141), BAD);
        for (int i = 3; i <= 60; i++) due("door(0, 0, 1)", y.door(0, 0, 1), i);
        due("door(0, 0, 1)", y.door(0, 0, 1), FULL);
        due("door(0, 0, -1)", y.door(0, 0, -1), BAD);
        due("count(4)", y.count(4), 60);
    }

    private static void writtenOnDays() {
        promise = 14;
        HourHouse x = small();
        x.person(0, 10);
        x.matter(0, 0, 0);
        x.days(10);
        x.entry(0, 0, 7, 20100, 0);
        x.entry(0, 1, 7, 100050, 1);
        x.entry(1, 0, 7, 100, 0);
        x.entry(0, 0, 8, 100, 0);
        due("written(0, 7, 9, 0), told later", x.written(0, 7, 9, 0), 0);
        due("written(0, 7, 10, 0)", x.written(0, 7, 10, 0), 150);
        due("written(0, 7, 10, 1)", x.written(0, 7, 10, 1), 30);
        due("written(0, 7, 10, 2)", x.written(0, 7, 10, 2), 20);
        due("written(0, 7, 10, 3), no door", x.written(0, 7, 10, 3), 0);
        x.door(1, 7, 1);
        x.door(0, 8, 1);
        due("written(0, 7, 10, 3), doors of others", x.written(0, 7, 10, 3), 0);
        x.days(1);
        x.door(0, 7, 30010);
        x.door(0, 7, 35100);
        due("written(0, 7, 11, 3)", x.written(0, 7, 11, 3), 25);
        due("written(0, 7, 10, 3)", x.written(0, 7, 10, 3), 0);
        x.rule(0, 149);
        due("written(0, 7, 11, 1)", x.written(0, 7, 11, 1), 1);
        x.entry(0, 0, 7, 110001, 0);
        due("written(0, 7, 11, 2), three at once", x.written(0, 7, 11, 2), 20);
        due("written(0, 7, 11, 0)", x.written(0, 7, 11, 0), 151);
        x.days(1);
        x.withdraw(0);
        due("written(0, 7, 12, 0)", x.written(0, 7, 12, 0), 51);
        due("written(0, 7, 11, 0), withdrawn later", x.written(0, 7, 11, 0), 151);
        due("written(0, 7, 12, 2)", x.written(0, 7, 12, 2), 1);
        due("written(0, 7, 12, 1)", x.written(0, 7, 12, 1), 0);
        HourHouse y = small();
        y.door(0, 0, 100001);
        y.entry(0, 0, 0, 240, 0);
        y.entry(0, 0, 0, 239001, 0);
        y.entry(0, 0, 0, 1, 0);
        due("written(0, 0, 0, 2), the first and the last part", y.written(0, 0, 0, 2), 2);
        due("written(0, 0, 0, 3)", y.written(0, 0, 0, 3), 239);
        due("written(2, 7, 12, 0)", x.written(2, 7, 12, 0), BAD);
        due("written(-1, 7, 12, 0)", x.written(-1, 7, 12, 0), BAD);
        due("written(0, 13, 12, 0)", x.written(0, 13, 12, 0), BAD);
        due("written(0, -1, 12, 0)", x.written(0, -1, 12, 0), BAD);
        due("written(0, 7, 13, 0)", x.written(0, 7, 13, 0), BAD);
        due("written(0, 7, -1, 0)", x.written(0, 7, -1, 0), BAD);
        due("written(0, 7, 12, 4)", x.written(0, 7, 12, 4), BAD);
        due("written(0, 7, 12, -1)", x.written(0, 7, 12, -1), BAD);
    }

    private static void worths() {
        promise = 16;
        HourHouse x = small();
        x.days(4);
        x.entry(0, 0, 2, 13, 0);
        x.days(2);
        due("worth(0, 4, 0)", x.worth(0, 4, 0), 13);
        due("worth(0, 4, 1)", x.worth(0, 4, 1), 70);
        due("worth(0, 6, 2)", x.worth(0, 6, 2), 91);
        due("worth(0, 6, 3)", x.worth(0, 6, 3), 91);
        due("worth(0, 3, 0)", x.worth(0, 3, 0), NO);
        x.withdraw(0);
        due("worth(0, 6, 0)", x.worth(0, 6, 0), NO);
        due("worth(0, 5, 0)", x.worth(0, 5, 0), 13);
        due("worth(1, 5, 0)", x.worth(1, 5, 0), BAD);
        due("worth(-1, 5, 0)", x.worth(-1, 5, 0), BAD);
        due("worth(0, 7, 0)", x.worth(0, 7, 0), BAD);
        due("worth(0, -1, 0)", x.worth(0, -1, 0), BAD);
        due("worth(0, 5, 4)", x.worth(0, 5, 4), BAD);
        due("worth(0, 5, -1)", x.worth(0, 5, -1), BAD);
        due("worth(0, 3, 4)", x.worth(0, 3, 4), BAD);
        x.person(0, 7);
        x.entry(1, 0, 0, 3, 0);
        due("worth(1, 6, 2), 21 by 10", x.worth(1, 6, 2), 2);
    }

    private static void caps() {
        promise = 16;
        HourHouse x = new HourHouse();
        x.person(0, 10);
        x.client();
        x.matter(2, 0, 100);
        x.matter(3, 0, 100);
        x.matter(1, 0, 100);
        x.days(60);
        x.entry(0, 0, 29, 60, 5);
        x.entry(0, 0, 0, 70, 0);
        x.entry(0, 0, 30, 240, 0);
        x.entry(0, 0, 29, 10, 0);
        due("worth(1, 60, 3), the first day", x.worth(1, 60, 3), 70);
        due("worth(0, 60, 3), travel is capped, too", x.worth(0, 60, 3), 30);
        due("worth(3, 60, 3)", x.worth(3, 60, 3), 0);
        due("worth(2, 60, 3), another month", x.worth(2, 60, 3), 100);
        due("worth(2, 60, 2)", x.worth(2, 60, 2), 240);
        x.days(1);
        x.entry(0, 0, 0, 20, 0);
        x.withdraw(1);
        due("worth(0, 61, 3)", x.worth(0, 61, 3), 60);
        due("worth(3, 61, 3)", x.worth(3, 61, 3), 10);
        due("worth(0, 60, 3), as known then", x.worth(0, 60, 3), 30);
        x.entry(0, 1, 5, 200, 5);
        x.entry(0, 1, 5, 90, 4);
        x.entry(0, 1, 6, 200, 5);
        x.entry(0, 1, 6, 90, 0);
        due("worth(5, 61, 3), travel of a trial", x.worth(5, 61, 3), 200);
        due("worth(6, 61, 3)", x.worth(6, 61, 3), 90);
        due("worth(7, 61, 3)", x.worth(7, 61, 3), 200);
        due("worth(8, 61, 3)", x.worth(8, 61, 3), 10);
        x.entry(0, 2, 0, 50, 0);
        due("worth(9, 61, 3), fixed", x.worth(9, 61, 3), 0);
        due("worth(9, 61, 2)", x.worth(9, 61, 2), 50);
    }

    private static void tape() {
        HourHouse x = small();
        promise = 17;
        for (int i = 1; i <= 10; i++) due("feed(0, 0, 0)", x.feed(0, 0, 0), 12 * i);
        due("feed(0, 0, 0)", x.feed(0, 0, 0), FULL);
        due("count(9)", x.count(9), 120);
        promise = 18;
        due("trim(121)", x.trim(121), BAD);
        due("trim(-1)", x.trim(-1), BAD);
        due("trim(120)", x.trim(120), 120);
        due("trim(109)", x.trim(109), 109);
        promise = 17;
        due("feed(0, 0, 0)", x.feed(0, 0, 0), FULL);
        promise = 18;
        due("trim(108)", x.trim(108), 108);
        promise = 17;
        due("feed(0, 0, 0)", x.feed(0, 0, 0), 120);
        promise = 18;
        due("trim(0)", x.trim(0), 0);
        due("trim(1)", x.trim(1), BAD);
        due("count(9)", x.count(9), 0);
        promise = 17;
        x.feed(0x70617274, 0x73203120, 0x72617465);
        x.feed(0x20322020, 0x20202020, 0x20202020);
        due("terms(0, 0), the highest byte first", x.terms(0, 0), 2);
        promise = 19;
        due("count(9), used up", x.count(9), 0);
        put(x, "parts n rate");
        due("terms(1, 0)", x.terms(1, 0), BAD);
        due("count(9), used up by BAD", x.count(9), 0);
        put(x, "parts n rate");
        due("terms(0, 0)", x.terms(0, 0), -112);
        due("count(9), used up by a fault", x.count(9), 0);
        due("terms(-1, 0)", terms(x, -1, 0, "parts n rate r"), BAD);
        due("terms(0, -1)", terms(x, 0, -1, "parts n rate r"), BAD);
        due("terms(0, 901)", terms(x, 0, 901, "parts n rate r"), BAD);
        due("terms(0, 901), a fault", terms(x, 0, 901, "?"), BAD);
        due("terms(0, 900)", terms(x, 0, 900, "parts n rate r"), 2);
        due("terms(0, 0)", terms(x, 0, 0, "parts n rate r"), 2);
        due("terms(0, 0), a fault ahead of FULL", terms(x, 0, 0, "?"), -100);
        put(x, "parts n rate r");
        due("terms(0, 0)", x.terms(0, 0), FULL);
        due("count(9), used up by FULL", x.count(9), 0);
        due("count(5)", x.count(5), 3);
        x.client();
        due("terms(1, 0), of another client", terms(x, 1, 0, "parts n rate r"), 2);
        due("count(5)", x.count(5), 4);
        due("terms(1, 0), a fault at a word", terms(x, 1, 0, "x"), -100);
        due("terms(1, 0), behind it", terms(x, 1, 0, "parts n rate r"), 2);
        due("terms(1, 0), a fault at a number", terms(x, 1, 0, "parts ((!(!1 1"), -113);
        due("terms(1, 0), behind it", terms(x, 1, 0, "parts n rate ((((((((!!!!!!!!r))))))))"), 2);
        for (int i = 2; i < 5; i++) x.client();
        for (int i = 2; i < 5; i++) x.matter(0, i, 0);
        StringBuilder one = new StringBuilder("parts n rate 1");
        while (one.length() < 118) one.append("+1");
        for (int i = 2; i < 5; i++) {
            for (int t = 0; t < 3; t++) terms(x, i, t, one + "+" + (t + i));
        }
        x.days(2);
        for (int i = 2; i < 5; i++) {
            for (int t = 0; t < 3; t++) {
                int e = x.entry(0, i - 1, t, 1, 0);
                due("worth(" + e + ", 2, 1), each text by itself", x.worth(e, 2, 1), 53 + t + i);
                due("worth(" + e + ", 2, 0)", x.worth(e, 2, 0), 1);
            }
        }
    }

    private static void text(String text, int want) {
        due("terms of <" + text + ">", terms(small(), 0, 0, text), want);
    }

    private static void texts() {
        promise = 19;
        text("parts n rate r", 2);
        text("   parts   n   rate   r   ", 2);
        text("parts(n)rate(r)", 2);
        text("parts!n rate!r", 2);
        text("parts n+2*m rate(r*2-1)", 6);
        text("parts 1|2&3<4+5*6 rate 1", 7);
        text("parts 99999 rate 00000", 2);
        text("parts n=1|n<2&n>3 rate k c", -125);
        text("parts n rate ((((((((r))))))))", 2);
        text("parts n rate !!!!!!!!r", 2);
        text("parts !!!!!!!!n+!!!!!!!!n rate !!!!!!!!(r)*!r", 4);
        text("parts ((((((((n))))))))-((((((((n)))))))) rate r", 3);
        text("parts !(!(!(!(!(!(!(!(n)))))))) rate r", 2);
        text("parts (n<1)<(n<2) rate r", 5);
        text("parts n<1&n<2|n=3 rate r", 7);
        StringBuilder longest = new StringBuilder("parts 1 rate 1");
        while (longest.length() < 120) longest.append("+1");
        text(longest.toString(), 55);
    }

    private static void faults() {
        promise = 19;
        text("", -100);
        text("   ", -103);
        text("rate n parts r", -100);
        text(" part n rate r", -101);
        text("partsn rate r", -100);
        text("parts5 rate r", -105);
        text("parts rate r", -106);
        text("parts nrate r", -106);
        text("parts 5rate r", -107);
        text("parts n5 rate r", -107);
        text("parts 5n rate r", -107);
        text("parts n 5 rate r", -108);
        text("parts n rate", -112);
        text("parts n rate ", -113);
        text("parts n rate5", -112);
        text("parts n", -107);
        text("parts", -105);
        text("parts n+ rate r", -109);
        text("parts n rate r+", -115);
        text("parts n rate r rate r", -115);
        text("parts n rate r)", -114);
        text("parts (n rate r", -109);
        text("parts n) rate r", -107);
        text("parts () rate r", -107);
        text("parts n<1<2 rate r", -109);
        text("parts n<1=2 rate r", -109);
        text("parts n<=1 rate r", -108);
        text("parts -1 rate r", -106);
        text("parts n!n rate r", -107);
        text("parts 123456 rate r", -106);
        text("parts 1+ 000001 rate r", -109);
        text("parts x rate r", -106);
        text("parts nn rate r", -106);
        text("parts N rate r", -106);
        text("parts nz rate r", -106);
        text("parts na rate r", -106);
        text("parts n0 rate r", -107);
        text("parts n`rate r", -107);
        text("parts n{rate r", -107);
        text("parts n:rate r", -107);
        text("xarts n rate r", -100);
        text("partx n rate r", -100);
        text("parts n xate r", -108);
        text("parts n ratx r", -108);
        text("parts n rat r", -108);
        text("parts n\trate r", -107);
        text("parts n % 2 rate r", -108);
        text("parts n" + (char) 0 + "rate r", -107);
        text("parts n" + (char) 238 + "rate r", -107);
        text("Parts n rate r", -100);
        text("parts n parts n rate r", -108);
        text("parts n rate (((((((((r)))))))))", -121);
        text("parts n rate !!!!!!!!!r", -121);
        text("parts n rate !(!(!(!(!(!(!(!(!n))))))))", -129);
        text("parts n rate !!!!!!!!(1)+!!!!!!!!(!1)", -134);
        text("parts n rate (((((((1)))))))+(((((((((1)))))))))", -137);
    }

    private static void sums() {
        promise = 16;
        due("1+2*3", counted("1+2*3"), 7);
        due("(1+2)*3", counted("(1+2)*3"), 9);
        due("20-5-3", counted("20-5-3"), 12);
        due("100/7/2", counted("100/7/2"), 7);
        due("100/(7/2)", counted("100/(7/2)"), 33);
        due("7*5/3", counted("7*5/3"), 11);
        due("5/0", counted("5/0"), 0);
        due("9+(2-9)/2, cut towards 0", counted("9+(2-9)/2"), 6);
        due("2-9, 0 at least", counted("2-9"), 0);
        due("241, 240 at most", counted("241"), 240);
        due("at 2-9", at("2-9"), 0);
        due("at 9999", at("9999"), 9999);
        due("at 10000", at("10000"), 9999);
        due("1<2", counted("1<2"), 1);
        due("2<2", counted("2<2"), 0);
        due("2>1", counted("2>1"), 1);
        due("1>1", counted("1>1"), 0);
        due("3=3", counted("3=3"), 1);
        due("3=4", counted("3=4"), 0);
        due("1+1=2", counted("1+1=2"), 1);
        due("5&7", counted("5&7"), 1);
        due("5&0", counted("5&0"), 0);
        due("1&1", counted("1&1"), 1);
        due("0&5", counted("0&5"), 0);
        due("1|0", counted("1|0"), 1);
        due("2&3&4, by & each", counted("2&3&4"), 1);
        due("4|0|2, by | each", counted("4|0|2"), 1);
        due("1&2=2", counted("1&2=2"), 1);
        due("0|7", counted("0|7"), 1);
        due("0|0", counted("0|0"), 0);
        due("1|0&0, & binds more", counted("1|0&0"), 1);
        due("0&0|1", counted("0&0|1"), 1);
        due("(1|1)&0", counted("(1|1)&0"), 0);
        due("!0", counted("!0"), 1);
        due("!5", counted("!5"), 0);
        due("!!5", counted("!!5"), 1);
        due("!0+4", counted("!0+4"), 5);
        due("!(0+4)", counted("!(0+4)"), 0);
        due("(0-1)&1, below 0 is true", counted("(0-1)&1"), 1);
        due("99999*99999 wraps", counted("99999*99999=1409865409"), BAD);
        due("99999*99999 wraps to 1409865409", counted("99999*99999/10000"), 240);
        due("at: it by 200000", at("99999*99999/50000/4"), 7049);
        due("65536*32767*2 wraps below 0", counted("65536*32767*2+65536*2"), 0);
        due("65536*32768 is the least, by -1 itself", counted("65536*32768/(0-1)<0"), 1);
        due("n", counted("n"), 10);
        due("n*(n>5)+3*(n<6)", counted("n*(n>5)+3*(n<6)"), 10);
        HourHouse x = small();
        x.entry(0, 0, 0, 10, 3);
        terms(x, 0, 0, "parts 13 rate 13");
        due("worth: 13 * 13 / 10", x.worth(0, 0, 2), 16);
    }

    private static void names() {
        promise = 16;
        HourHouse x = new HourHouse();
        x.person(3, 70);
        x.person(2, 80);
        x.person(0, 90);
        x.client();
        x.matter(3, 0, 50);
        x.matter(2, 0, 50);
        x.days(20);
        x.entry(0, 0, 17, 20010, 4);
        due("terms", terms(x, 0, 0, "parts n+10*m rate r*100+k*10+c+g*1000+w*200"), 12);
        due("n", x.worth(0, 20, 0), 10);
        due("r, k, c, g, w", x.worth(0, 20, 1), 9999);
        terms(x, 0, 1, "parts w rate k*1000+c*100+g*10+w");
        due("w is 17 rest 7", x.worth(0, 20, 0), 3);
        due("k 3, c 4, g 3, w 3", x.worth(0, 20, 1), 3433);
        terms(x, 0, 2, "parts n+10*m rate r");
        due("r", x.worth(0, 20, 1), 70);
        x.days(1);
        x.entry(1, 0, 17, 29005, 0);
        due("m: one", x.worth(0, 21, 0), 20);
        due("m: none was known", x.worth(0, 20, 0), 10);
        due("m of the other", x.worth(1, 21, 0), 15);
        x.entry(1, 0, 17, 22001, 0);
        due("m: one, with two entries", x.worth(0, 21, 0), 20);
        x.entry(2, 0, 17, 30010, 0);
        due("m: no part in common", x.worth(0, 21, 0), 20);
        x.entry(2, 0, 17, 10010, 0);
        due("m: no part in common ahead", x.worth(0, 21, 0), 20);
        x.entry(2, 1, 17, 20010, 0);
        due("m: another matter", x.worth(0, 21, 0), 20);
        x.entry(2, 0, 18, 20010, 0);
        due("m: another day", x.worth(0, 21, 0), 20);
        x.entry(0, 0, 17, 20010, 0);
        due("m: oneself", x.worth(0, 21, 0), 20);
        x.entry(2, 0, 17, 19002, 0);
        due("m: two", x.worth(0, 21, 0), 30);
        x.days(1);
        x.withdraw(1);
        x.withdraw(2);
        due("m: withdrawn", x.worth(0, 22, 0), 20);
        due("m: withdrawn later", x.worth(0, 21, 0), 30);
    }

    private static void termsByDays() {
        promise = 19;
        HourHouse x = small();
        x.client();
        x.matter(0, 1, 0);
        x.days(30);
        x.entry(0, 0, 9, 10, 0);
        x.entry(0, 0, 10, 10, 0);
        x.entry(0, 0, 20, 10, 0);
        x.entry(0, 1, 20, 10, 0);
        terms(x, 0, 20, "parts 2 rate 2");
        terms(x, 0, 10, "parts 1 rate 1");
        due("worth(0, 30, 0), none in force", x.worth(0, 30, 0), 10);
        due("worth(0, 30, 1), none in force", x.worth(0, 30, 1), 70);
        due("worth(1, 30, 0)", x.worth(1, 30, 0), 1);
        due("worth(2, 30, 0), the latest day", x.worth(2, 30, 0), 2);
        due("worth(3, 30, 0), another client", x.worth(3, 30, 0), 10);
        terms(x, 0, 20, "parts 3 rate 3");
        due("worth(2, 30, 0), told last", x.worth(2, 30, 0), 3);
        due("worth(1, 30, 0)", x.worth(1, 30, 0), 1);
    }

    private static void bills() {
        promise = 20;
        HourHouse x = small();
        x.client();
        x.client();
        x.payers(0, 203, 1, 103);
        x.days(9);
        x.entry(0, 0, 3, 10, 0);
        x.entry(0, 0, 4, 5, 0);
        x.entry(0, 0, 2, 100, 0);
        x.withdraw(2);
        x.retain(0, 30);
        due("bill(1, 0, 0)", x.bill(1, 0, 0), BAD);
        due("bill(-1, 0, 0)", x.bill(-1, 0, 0), BAD);
        due("bill(0, 10, 0)", x.bill(0, 10, 0), BAD);
        due("bill(0, -1, 0)", x.bill(0, -1, 0), BAD);
        due("bill(0, 9, 101)", x.bill(0, 9, 101), BAD);
        due("bill(0, 9, -1)", x.bill(0, 9, -1), BAD);
        due("bill(0, 3, 15)", x.bill(0, 3, 15), 0);
        promise = 21;
        int[] about = {0, 9, 70, 60, 30, 1, 30};
        for (int what = 0; what <= 6; what++) due("about(0, " + what + ")", x.about(0, what), about[what]);
        due("about(0, 7)", x.about(0, 7), BAD);
        due("about(0, -1)", x.about(0, -1), BAD);
        due("about(1, 0)", x.about(1, 0), BAD);
        due("about(-1, 0)", x.about(-1, 0), BAD);
        promise = 22;
        due("owes(0, 2, 0), 90 / 7 and 1", x.owes(0, 2, 0), 13);
        due("owes(0, 0, 0), 30 / 7 and 1", x.owes(0, 0, 0), 5);
        due("owes(0, 1, 0), 90 / 7", x.owes(0, 1, 0), 12);
        due("owes(0, 3, 0)", x.owes(0, 3, 0), BAD);
        due("owes(0, -1, 0)", x.owes(0, -1, 0), BAD);
        due("owes(1, 0, 0)", x.owes(1, 0, 0), BAD);
        due("owes(-1, 0, 0)", x.owes(-1, 0, 0), BAD);
        due("owes(0, 0, 2)", x.owes(0, 0, 2), BAD);
        due("owes(0, 0, -1)", x.owes(0, 0, -1), BAD);
        promise = 20;
        due("told(0, 8)", x.told(0, 8), 0);
        due("told(0, 9), the whole of it", x.told(0, 9), 70);
        due("told(1, 8)", x.told(1, 8), NONE);
        due("bill(0, 9, 100)", x.bill(0, 9, 100), 1);
        due("about(1, 2)", x.about(1, 2), 35);
        due("about(1, 3)", x.about(1, 3), 0);
        due("about(1, 5)", x.about(1, 5), 1);
        due("bill(0, 9, 0), no entries", x.bill(0, 9, 0), 2);
        due("about(2, 2)", x.about(2, 2), 0);
        due("about(2, 5)", x.about(2, 5), 0);
        x.entry(0, 0, 0, 13, 0);
        x.entry(0, 0, 0, 1, 0);
        terms(x, 0, 0, "parts n rate 73");
        x.bill(0, 9, 50);
        due("about(3, 2), 94 and 7", x.about(3, 2), 101);
        due("about(3, 3), 101 less 50", x.about(3, 3), 51);
        for (int i = 4; i < 16; i++) due("bill(0, 0, 0)", x.bill(0, 0, 0), i);
        due("bill(0, 0, 0)", x.bill(0, 0, 0), FULL);
        due("bill(0, 0, 101)", x.bill(0, 0, 101), BAD);
        due("count(6)", x.count(6), 16);
    }

    private static void fixedBills() {
        promise = 20;
        HourHouse x = small();
        x.matter(1, 0, 777);
        x.matter(1, 0, 50);
        x.matter(2, 0, 60);
        x.entry(0, 1, 0, 10, 0);
        x.retain(1, 1000);
        due("bill(1, 0, 0)", x.bill(1, 0, 0), 0);
        due("about(0, 2)", x.about(0, 2), 777);
        due("about(0, 4)", x.about(0, 4), 777);
        due("about(0, 5)", x.about(0, 5), 1);
        due("about(0, 6)", x.about(0, 6), 0);
        due("count(12)", x.count(12), 223);
        due("told(0, 9)", x.told(0, 9), 0);
        due("told(0, 8)", x.told(0, 8), 0);
        due("bill(1, 0, 0)", x.bill(1, 0, 0), 1);
        due("about(1, 2), the second one", x.about(1, 2), 0);
        due("bill(2, 0, 0)", x.bill(2, 0, 0), 2);
        due("about(2, 2), the first of another", x.about(2, 2), 50);
        x.days(3);
        x.entry(0, 3, 2, 5, 0);
        x.bill(3, 3, 0);
        due("about(3, 2), capped", x.about(3, 2), 35);
        x.entry(0, 3, 1, 5, 0);
        x.bill(3, 3, 0);
        due("about(4, 2), ahead of what is in a bill", x.about(4, 2), 35);
        x.entry(0, 3, 3, 5, 0);
        x.bill(3, 3, 0);
        due("about(5, 2), the cap is used up", x.about(5, 2), 0);
        due("told(1, 9), as it was then", x.told(1, 9), 35);
        due("worth(1, 3, 3), as it is", x.worth(1, 3, 3), 25);
    }

    private static void trustCoin() {
        HourHouse x = small();
        x.client();
        promise = 23;
        due("retain(0, 1)", x.retain(0, 1), 1);
        due("retain(0, 0)", x.retain(0, 0), BAD);
        due("retain(0, 100000)", x.retain(0, 100000), BAD);
        due("retain(1, 1)", x.retain(1, 1), BAD);
        due("retain(-1, 1)", x.retain(-1, 1), BAD);
        for (int i = 1; i <= 10; i++) due("retain(0, 99999)", x.retain(0, 99999), 1 + 99999 * i);
        due("retain(0, 9)", x.retain(0, 9), FULL);
        due("retain(0, 8)", x.retain(0, 8), 999999);
        due("retain(0, 1)", x.retain(0, 1), FULL);
        promise = 24;
        x = small();
        x.client();
        due("trust(0, 0)", x.trust(0, 0), 0);
        due("trust(0, 5)", x.trust(0, 5), 5);
        due("trust(0, -1)", x.trust(0, -1), BAD);
        due("trust(0, 100000)", x.trust(0, 100000), BAD);
        due("trust(2, 1)", x.trust(2, 1), BAD);
        due("trust(-1, 1)", x.trust(-1, 1), BAD);
        promise = 25;
        x.entry(0, 0, 0, 10, 0);
        x.payers(0, 1, 101, NONE);
        x.bill(0, 0, 0);
        x.trust(1, 99);
        due("draw(0, 0)", x.draw(0, 0), 5);
        due("draw(0, 0)", x.draw(0, 0), 0);
        due("owes(0, 0, 0)", x.owes(0, 0, 0), 30);
        due("draw(0, 1)", x.draw(0, 1), 35);
        due("owes(0, 1, 0)", x.owes(0, 1, 0), 0);
        due("count(11)", x.count(11), 64);
        due("draw(1, 0)", x.draw(1, 0), BAD);
        due("draw(-1, 0)", x.draw(-1, 0), BAD);
        due("draw(0, 2)", x.draw(0, 2), BAD);
        due("draw(0, -1)", x.draw(0, -1), BAD);
        x.client();
        x.trust(2, 7);
        due("draw(0, 2), no payer", x.draw(0, 2), 0);
        due("count(11)", x.count(11), 71);
        promise = 26;
        due("pay(0, 0, 10)", x.pay(0, 0, 10), 0);
        due("owes(0, 0, 0)", x.owes(0, 0, 0), 20);
        due("pay(0, 0, 25)", x.pay(0, 0, 25), 5);
        due("about(0, 6)", x.about(0, 6), 0);
        due("pay(0, 0, 99999)", x.pay(0, 0, 99999), 99999);
        due("trust(0, 0)", x.trust(0, 0), 100004);
        due("pay(0, 2, 1)", x.pay(0, 2, 1), NO);
        due("pay(0, 3, 1)", x.pay(0, 3, 1), BAD);
        due("pay(0, -1, 1)", x.pay(0, -1, 1), BAD);
        due("pay(1, 0, 1)", x.pay(1, 0, 1), BAD);
        due("pay(-1, 0, 1)", x.pay(-1, 0, 1), BAD);
        due("pay(0, 0, 0)", x.pay(0, 0, 0), BAD);
        due("pay(0, 0, 100000)", x.pay(0, 0, 100000), BAD);
        due("pay(0, 2, 0)", x.pay(0, 2, 0), BAD);
        int all = 100004;
        while (all + 99999 <= 9999999) {
            all += 99999;
            due("pay(0, 0, 99999)", x.pay(0, 0, 99999), 99999);
        }
        due("pay(0, 0, " + (9999999 - all + 1) + ")", x.pay(0, 0, 9999999 - all + 1), FULL);
        promise = 24;
        due("trust(0, " + (9999999 - all + 1) + ")", x.trust(0, 9999999 - all + 1), FULL);
        due("trust(0, 0)", x.trust(0, 0), all);
        due("trust(0, " + (9999999 - all) + ")", x.trust(0, 9999999 - all), 9999999);
        due("trust(0, 1)", x.trust(0, 1), FULL);
        promise = 26;
        x.matter(1, 0, 9);
        x.bill(1, 0, 0);
        x.draw(1, 0);
        due("pay(1, 0, 9), all fits", x.pay(1, 0, 9), 9);
        due("trust(0, 0)", x.trust(0, 0), 9999999);
        due("pay(0, 0, 1)", x.pay(0, 0, 1), FULL);
        due("pay(0, 1, 1)", x.pay(0, 1, 1), 1);
    }

    private static void interest() {
        promise = 22;
        HourHouse x = small();
        x.client();
        x.days(10);
        x.matter(1, 1, 73000);
        x.bill(1, 10, 0);
        due("owes(0, 1, 0)", x.owes(0, 1, 0), 73000);
        x.days(30);
        due("owes(0, 1, 1), within grace", x.owes(0, 1, 1), 0);
        x.days(1);
        due("owes(0, 1, 1), a day beyond", x.owes(0, 1, 1), 16);
        due("owes(0, 0, 1), another", x.owes(0, 0, 1), 0);
        x.days(59);
        due("owes(0, 1, 1), 60 beyond", x.owes(0, 1, 1), 960);
        x.rule(1, 100);
        due("owes(0, 1, 1), by the rule", x.owes(0, 1, 1), 12000);
        x.rule(2, 0);
        due("owes(0, 1, 1), 90 beyond", x.owes(0, 1, 1), 18000);
        x.rule(2, 900);
        due("owes(0, 1, 1)", x.owes(0, 1, 1), 0);
        x.rule(2, 30);
        x.rule(1, 1);
        x.pay(0, 1, 72393);
        due("owes(0, 1, 1), 607 * 60 by 36500", x.owes(0, 1, 1), 0);
        x.rule(1, 2);
        due("owes(0, 1, 1), 607 * 120 by 36500", x.owes(0, 1, 1), 1);
        due("owes(0, 1, 0), without it", x.owes(0, 1, 0), 607);
        for (int i = 0; i < 8; i++) x.days(100);
        x.rule(1, 100);
        x.rule(2, 0);
        due("owes(0, 1, 1), 890 days", x.owes(0, 1, 1), 1480);
        HourHouse y = small();
        y.matter(1, 0, 36499);
        y.matter(1, 0, 36500);
        y.rule(1, 1);
        y.rule(2, 0);
        y.bill(1, 0, 0);
        y.bill(2, 0, 0);
        due("owes(0, 0, 1), the same day", y.owes(1, 0, 1), 0);
        y.days(1);
        due("owes(0, 0, 1), 36499 by 36500", y.owes(0, 0, 1), 0);
        due("owes(1, 0, 1), 36500 by 36500", y.owes(1, 0, 1), 1);
    }

    private static void contests() {
        HourHouse x = small();
        x.person(1, 50);
        x.person(2, 90);
        x.client();
        for (int i = 0; i < 3; i++) x.matter(0, 1, 0);
        x.payers(0, 1, 102, NONE);
        promise = 28;
        x.entry(0, 0, 0, 100, 1);
        due("middle(0), in no bill", x.middle(0), NO);
        due("middle(1)", x.middle(1), BAD);
        due("middle(-1)", x.middle(-1), BAD);
        promise = 27;
        due("contest(0), in no bill", x.contest(0), NO);
        due("contest(1)", x.contest(1), BAD);
        due("contest(-1)", x.contest(-1), BAD);
        x.entry(1, 0, 0, 1, 1);
        x.bill(0, 0, 0);
        due("contest(0), no like ones in others", x.contest(0), NO);
        x.entry(1, 1, 0, 30, 1);
        x.entry(1, 1, 0, 40, 2);
        x.entry(2, 1, 0, 50, 1);
        x.entry(1, 1, 0, 7, 1);
        due("contest(0), others are in no bill", x.contest(0), NO);
        x.bill(1, 0, 0);
        promise = 28;
        due("middle(0), the lesser of both", x.middle(0), 7);
        due("middle(2), of 100 and 1", x.middle(2), 1);
        due("middle(3), no such code", x.middle(3), NO);
        due("middle(4), no such kind", x.middle(4), NO);
        x.entry(0, 2, 0, 33, 1);
        due("middle(0)", x.middle(0), 7);
        x.bill(2, 0, 0);
        due("middle(0), of 7, 30, 33", x.middle(0), 30);
        promise = 27;
        // charged 700 and 5; 700 * 30 / 100 is 210; 705 was split 235 and 470
        due("contest(0)", x.contest(0), 490);
        due("told(0, 10)", x.told(0, 10), 490);
        due("owes(0, 0, 0), 490 / 3 and 1 off", x.owes(0, 0, 0), 71);
        due("owes(0, 1, 0), 980 / 3 off", x.owes(0, 1, 0), 144);
        due("contest(0), again", x.contest(0), NO);
        due("contest(1), not more", x.contest(1), 0);
        due("told(1, 10)", x.told(1, 10), 0);
        due("contest(1), again", x.contest(1), NO);
        due("count(11)", x.count(11), 0);
        promise = 28;
        due("middle(0), though contested", x.middle(0), 30);
        due("middle(2), contested ones are not like", x.middle(2), 33);
        promise = 27;
        terms(x, 1, 0, "parts n*(n<20)+200*(n>32) rate 10");
        due("middle(0), of 7, 200", x.middle(0), 7);
        due("middle(2), 33 counts 200", x.middle(2), 200);
        x.pay(2, 1, 231);
        due("contest(6), 231 - 231 * 7 / 200", x.contest(6), 223);
        due("trust(1, 0)", x.trust(1, 0), 223);
        fullTrust();
        fullTrustUntouched();
    }

    private static void fullTrustUntouched() {
        HourHouse x = small();
        x.client();
        x.matter(0, 0, 0);
        x.matter(0, 1, 0);
        x.entry(0, 1, 0, 10, 1);
        x.bill(1, 0, 0);
        x.payers(2, 101, 1, NONE);
        x.entry(0, 2, 0, 100, 1);
        x.entry(0, 2, 0, 100, 1);
        x.bill(2, 0, 0);
        promise = 28;
        due("middle(1), of the first entry alone", x.middle(1), 10);
        promise = 27;
        for (int i = 0; i < 100; i++) x.trust(1, 99999);
        x.trust(1, 99);
        due("contest(1), trust is full, but all is still owed", x.contest(1), 630);
        due("owes(1, 1, 0)", x.owes(1, 1, 0), 385);
        due("trust(1, 0)", x.trust(1, 0), 9999999);
        x.pay(1, 1, 100);
        due("contest(2), the first payer's trust is full", x.contest(2), FULL);
        due("owes(1, 1, 0)", x.owes(1, 1, 0), 285);
        due("owes(1, 0, 0)", x.owes(1, 0, 0), 385);
        x.matter(1, 1, 29);
        x.bill(3, 0, 0);
        x.draw(2, 1);
        due("contest(2), 30 more, 29 fit", x.contest(2), FULL);
        x.matter(1, 1, 1);
        x.bill(4, 0, 0);
        x.draw(3, 1);
        due("contest(2), 30 more fit", x.contest(2), 630);
        due("owes(1, 1, 0)", x.owes(1, 1, 0), 0);
        due("owes(1, 0, 0)", x.owes(1, 0, 0), 70);
        due("trust(1, 0)", x.trust(1, 0), 9999999);
        promise = 28;
        HourHouse y = small();
        y.matter(0, 0, 0);
        terms(y, 0, 0, "parts 5 rate 5");
        y.bill(1, 0, 0);
        y.entry(0, 0, 0, 1, 0);
        y.bill(0, 0, 0);
        due("middle(0), there are no others", y.middle(0), NO);
    }

    private static void fullTrust() {
        HourHouse x = small();
        x.client();
        x.matter(0, 0, 0);
        x.payers(0, 101, 1, NONE);
        x.entry(0, 0, 0, 100, 1);
        x.entry(0, 1, 0, 10, 1);
        x.bill(0, 0, 0);
        x.bill(1, 0, 0);
        x.pay(0, 0, 350);
        x.pay(0, 1, 300);
        for (int i = 0; i < 100; i++) x.trust(0, 99999);
        due("trust(0, 99)", x.trust(0, 99), 9999999);
        due("contest(0), beyond trust", x.contest(0), FULL);
        due("told(0, 10)", x.told(0, 10), NONE);
        due("owes(0, 1, 0), nothing changed", x.owes(0, 1, 0), 50);
        due("trust(1, 0), nothing changed", x.trust(1, 0), 0);
        due("draw(1, 0)", x.draw(1, 0), 70);
        due("contest(0), still beyond", x.contest(0), FULL);
        x.matter(1, 0, 245);
        x.bill(2, 0, 0);
        due("draw(2, 0)", x.draw(2, 0), 245);
        due("contest(0), it fits", x.contest(0), 630);
        due("trust(0, 0)", x.trust(0, 0), 9999999);
        due("trust(1, 0)", x.trust(1, 0), 265);
        due("owes(0, 1, 0)", x.owes(0, 1, 0), 0);
    }

    private static void stages() {
        promise = 29;
        HourHouse x = small();
        x.person(0, 10);
        x.matter(0, 0, 0);
        x.matter(0, 0, 0);
        x.matter(2, 0, 50);
        x.matter(1, 0, 500);
        x.days(3);
        x.entry(1, 0, 0, 40, 0);
        x.entry(1, 1, 0, 30, 0);
        x.entry(1, 2, 0, 7, 0);
        x.entry(1, 3, 0, 70, 0);
        x.entry(1, 4, 0, 70, 0);
        due("stage(5, 1)", x.stage(5, 1), BAD);
        due("stage(-1, 1)", x.stage(-1, 1), BAD);
        due("stage(0, 0)", x.stage(0, 0), BAD);
        due("stage(0, 6)", x.stage(0, 6), BAD);
        due("stage(3, 1), capped", x.stage(3, 1), 50);
        due("stage(4, 1), fixed", x.stage(4, 1), 0);
        due("stage(0, 2)", x.stage(0, 2), 40);
        due("stage(0, 2), again", x.stage(0, 2), NO);
        due("stage(0, 1)", x.stage(0, 1), NO);
        promise = 30;
        due("foretold(0, 0), none", x.foretold(0, 0), NONE);
        due("foretold(1, 0), at 0", x.foretold(1, 0), NO);
        due("foretold(5, 0)", x.foretold(5, 0), BAD);
        due("foretold(-1, 0)", x.foretold(-1, 0), BAD);
        due("foretold(0, 2)", x.foretold(0, 2), BAD);
        due("foretold(0, -1)", x.foretold(0, -1), BAD);
        x.stage(1, 2);
        x.entry(1, 1, 1, 71, 0);
        due("foretold(0, 0), not at its end", x.foretold(0, 0), NONE);
        promise = 29;
        due("stage(1, 5)", x.stage(1, 5), 101);
        due("stage(1, 5)", x.stage(1, 5), NO);
        promise = 30;
        due("foretold(0, 0), 40 * 101 / 30", x.foretold(0, 0), 134);
        due("foretold(0, 1)", x.foretold(0, 1), 134);
        due("foretold(1, 0), at 5", x.foretold(1, 0), NO);
        x.stage(2, 2);
        x.entry(1, 2, 1, 240, 0);
        x.withdraw(2);
        x.stage(2, 5);
        due("foretold(0, 0)", x.foretold(0, 0), 134);
        due("foretold(0, 1), 40 * 240 / 7", x.foretold(0, 1), 1371);
        x.stage(0, 3);
        due("foretold(0, 1), nobody was at 3", x.foretold(0, 1), NONE);
        due("foretold(3, 0), none of its kind", x.foretold(3, 0), NONE);
        x.matter(2, 0, 99999);
        x.entry(1, 5, 0, 10, 0);
        x.stage(5, 2);
        due("foretold(5, 0), none of its kind", x.foretold(5, 0), NONE);
        x.matter(0, 0, 0);
        x.entry(1, 6, 0, 20, 0);
        x.stage(6, 3);
        x.entry(1, 0, 0, 4, 0);
        x.stage(0, 5);
        due("foretold(6, 0), of the first matter", x.foretold(6, 0), 22);
        HourHouse y = small();
        y.matter(0, 0, 0);
        terms(y, 0, 1, "parts 240 rate 9999");
        y.stage(1, 1);
        y.stage(1, 5);
        y.days(1);
        y.entry(0, 0, 1, 1, 0);
        y.stage(0, 1);
        due("foretold(0, 0), theirs was 0", y.foretold(0, 0), NONE);
        HourHouse z = new HourHouse();
        z.person(0, 1);
        z.client();
        z.matter(0, 0, 0);
        z.matter(0, 0, 0);
        z.days(1);
        terms(z, 0, 1, "parts 240 rate 9999");
        z.entry(0, 0, 1, 1, 0);
        z.entry(0, 1, 0, 10, 0);
        z.stage(0, 4);
        z.stage(1, 4);
        z.entry(0, 1, 1, 1, 0);
        z.entry(0, 1, 1, 1, 0);
        z.stage(1, 5);
        due("foretold(0, 0), at most", z.foretold(0, 0), 99999999);
    }

    private static void tasks() {
        promise = 31;
        HourHouse x = small();
        due("task(0, 1, 0)", x.task(0, 1, 0), 0);
        due("task(0, 999, 2)", x.task(0, 999, 2), 1);
        due("task(1, 1, 0)", x.task(1, 1, 0), BAD);
        due("task(-1, 1, 0)", x.task(-1, 1, 0), BAD);
        due("task(0, 0, 0)", x.task(0, 0, 0), BAD);
        due("task(0, 1000, 0)", x.task(0, 1000, 0), BAD);
        due("task(0, 1, 3)", x.task(0, 1, 3), BAD);
        due("task(0, 1, -1)", x.task(0, 1, -1), BAD);
        for (int i = 2; i < 6; i++) due("task(0, 1, 1)", x.task(0, 1, 1), i);
        due("task(0, 1, 1)", x.task(0, 1, 1), FULL);
        due("task(0, 0, 1)", x.task(0, 0, 1), BAD);
        promise = 32;
        due("clear()", x.clear(), 6);
        due("clear()", x.clear(), 0);
        due("task(0, 1, 1)", x.task(0, 1, 1), 0);
        promise = 33;
        due("free(0, 9999)", x.free(0, 9999), 0);
        due("free(0, 10000)", x.free(0, 10000), BAD);
        due("free(0, -1)", x.free(0, -1), BAD);
        due("free(1, 0)", x.free(1, 0), BAD);
        due("free(-1, 0)", x.free(-1, 0), BAD);
        due("free(0, 0)", x.free(0, 0), 9999);
        promise = 34;
        x.person(0, 5);
        due("lay(2)", x.lay(2), BAD);
        due("lay(-1)", x.lay(-1), BAD);
        due("lay(0)", x.lay(0), NOTHING);
        x.sheet(0, 0);
        due("lay(0), no places", x.lay(0), 0);
        x.sheet(0, 1);
        x.mark(0, 0, 10000);
        x.free(1, 3);
        due("lay(0)", x.lay(0), 1);
        due("free(0, 0), at most 9999", x.free(0, 0), 9999);
        due("free(1, 0), no place for it", x.free(1, 0), 3);
        x.sheet(1, 20);
        x.mark(1, 0, -1);
        x.mark(1, 1, 9999);
        x.mark(1, 2, 77);
        x.free(0, 5);
        due("lay(1)", x.lay(1), 2);
        due("free(0, 0), below 0", x.free(0, 0), 0);
        due("free(1, 0)", x.free(1, 0), 9999);
        x.person(0, 5);
        due("free(2, 0), came later", x.free(2, 0), 0);
    }

    private static void plans() {
        promise = 35;
        HourHouse x = new HourHouse();
        x.person(3, 15);
        x.person(0, 15);
        x.person(1, 29);
        x.person(2, 31);
        x.client();
        x.matter(0, 0, 0);
        x.matter(0, 0, 0);
        for (int p = 0; p < 4; p++) x.free(p, 20);
        x.task(0, 11, 0);
        due("plan(0)", x.plan(0), BAD);
        due("plan(30001)", x.plan(30001), BAD);
        due("plan(3)", x.plan(3), SPENT);
        due("plan(4)", x.plan(4), 16);
        promise = 36;
        due("planned(4, 0), the first of both", x.planned(4, 0), 0);
        due("planned(3, 0)", x.planned(3, 0), SPENT);
        due("planned(0, 0)", x.planned(0, 0), BAD);
        due("planned(30001, 0)", x.planned(30001, 0), BAD);
        due("planned(4, 1)", x.planned(4, 1), BAD);
        due("planned(4, -1)", x.planned(4, -1), BAD);
        promise = 35;
        x.wall(0, 0, 1);
        x.wall(1, 1, 1);
        due("plan(2)", x.plan(2), SPENT);
        due("plan(3)", x.plan(3), 16);
        promise = 36;
        due("planned(3, 0), a wall", x.planned(3, 0), 1);
        promise = 35;
        // 11 parts: 16, 31, 34; then 9 of at least a lawyer: 26, 27
        x.task(1, 9, 1);
        due("plan(9)", x.plan(9), 42);
        due("plan(8)", x.plan(8), SPENT);
        promise = 36;
        due("planned(9, 0)", x.planned(9, 0), 1);
        due("planned(9, 1)", x.planned(9, 1), 2);
        promise = 35;
        x.task(1, 11, 2);
        // 1 2 3, 1 3 -, 2 2 3, 2 3 -, 3 2 -, 3 3 -: the partner has 20, not 22
        due("plan(13)", x.plan(13), 16 + 26 + 34);
        x.free(3, 10);
        due("plan(30000)", x.plan(30000), NO);
        promise = 36;
        due("planned(30000, 0)", x.planned(30000, 0), NO);
        promise = 35;
        x.clear();
        due("plan(1), no tasks", x.plan(1), 0);
        HourHouse y = new HourHouse();
        y.client();
        y.matter(0, 0, 0);
        for (int p = 0; p < 8; p++) {
            y.person(0, 9 - p);
            y.free(p, 9999);
        }
        for (int t = 0; t < 4; t++) y.task(0, 10, 0);
        due("plan(4680), 8 + 64 + 512 + 4096", y.plan(4680), 8);
        due("plan(4679)", y.plan(4679), SPENT);
        y.task(0, 10, 0);
        due("plan(30000)", y.plan(30000), SPENT);
        promise = 38;
        y.tell(1);
        due("check(), more than 30000", y.check(), SPENT);
        due("count(8)", y.count(8), 0);
        promise = 35;
        wallsByTasks();
        tempIsClerk();
        lessIsLater();
    }

    private static void wallsByTasks() {
        HourHouse x = small();
        x.person(1, 10);
        x.matter(0, 0, 0);
        x.free(0, 99);
        x.free(1, 99);
        x.wall(1, 1, 1);
        x.task(1, 10, 0);
        due("plan(1), a wall to the task's matter", x.plan(1), 70);
        x.task(0, 10, 0);
        due("plan(3), none to the other's", x.plan(3), 80);
        HourHouse y = new HourHouse();
        y.person(0, 5);
        y.person(0, 1);
        y.client();
        y.matter(0, 0, 0);
        y.free(1, 1);
        y.task(0, 1, 0);
        due("plan(1), it costs nothing", y.plan(1), 0);
        promise = 36;
        due("planned(1, 0)", y.planned(1, 0), 1);
        promise = 35;
    }

    private static void tempIsClerk() {
        HourHouse x = small();
        x.person(3, 1);
        x.free(1, 100);
        x.task(0, 10, 1);
        due("plan(1), a temp is no lawyer", x.plan(1), NO);
        x.free(0, 10);
        due("plan(1)", x.plan(1), 70);
        x.clear();
        x.task(0, 10, 0);
        due("plan(2), a temp is as a clerk", x.plan(2), 1);
    }

    private static void lessIsLater() {
        HourHouse x = small();
        x.person(0, 60);
        x.person(0, 50);
        x.free(0, 20);
        x.free(1, 10);
        x.free(2, 10);
        x.task(0, 10, 0);
        x.task(0, 10, 0);
        due("plan(30000)", x.plan(30000), 110);
        promise = 36;
        due("planned(30000, 0), by people, task by task", x.planned(30000, 0), 1);
        due("planned(30000, 1)", x.planned(30000, 1), 2);
        promise = 35;
    }

    private static void rows() {
        promise = 37;
        HourHouse x = small();
        x.person(0, 15);
        x.free(0, 10);
        x.free(1, 11);
        for (int i = 1; i <= 20; i++) due("tell(" + i + ")", x.tell(i), i);
        due("tell(21)", x.tell(21), FULL);
        due("count(8)", x.count(8), 20);
        promise = 38;
        due("check(), no rows but numbers", x.check(), 1);
        due("count(8)", x.count(8), 0);
        x.task(0, 11, 0);
        x.task(0, 10, 0);
        int[] rows = {1, 16, 0, 86};
        due("check(), none", x.check(), 1);
        for (int bad = 0; bad < 4; bad++) {
            for (int i = 0; i < 4; i++) x.tell(i == bad ? rows[i] + 1 : rows[i]);
            due("check(), number " + bad + " is not", x.check(), 1 + bad);
            for (int i = 0; i < bad; i++) x.tell(rows[i]);
            due("check(), number " + bad + " is missing", x.check(), 1 + bad);
        }
        for (int i = 0; i < 4; i++) x.tell(rows[i]);
        due("check()", x.check(), 0);
        for (int i = 0; i < 4; i++) x.tell(rows[i]);
        x.tell(0);
        due("check(), one too many", x.check(), 5);
        due("check(), none wait", x.check(), 1);
        x.free(0, 9);
        x.tell(1);
        due("check(), no plan", x.check(), NO);
        due("count(8)", x.count(8), 0);
    }

    private static void images() {
        promise = 40;
        HourHouse x = small();
        due("back()", x.back(), NO);
        promise = 39;
        x.days(3);
        x.entry(0, 0, 0, 10, 1);
        x.sheet(0, 2);
        x.mark(0, 1, 5);
        x.tell(7);
        put(x, "parts n rate r");
        due("keep()", x.keep(), 3);
        promise = 40;
        x.person(2, 9);
        x.client();
        x.matter(1, 1, 7);
        x.payers(0, 101, 1, NONE);
        x.wall(0, 0, 1);
        x.rule(0, 1);
        x.rule(1, 1);
        x.rule(2, 1);
        x.withdraw(0);
        x.door(0, 0, 1);
        x.retain(0, 5);
        x.trust(0, 5);
        x.terms(0, 0);
        x.bill(0, 0, 0);
        x.stage(0, 3);
        x.task(0, 5, 0);
        x.free(0, 5);
        x.days(2);
        x.mark(0, 1, 6);
        x.tell(8);
        put(x, "parts n");
        for (int again = 0; again < 2; again++) {
            due("back()", x.back(), 3);
            int[] count = {1, 1, 1, 1, 0, 0, 0, 0, 2, 7, 3, 0, 0};
            for (int what = 0; what <= 12; what++) due("count(" + what + ")", x.count(what), count[what]);
            due("told(0, 7)", x.told(0, 7), NONE);
            due("mark(0, 1, 6), sheets stay", x.mark(0, 1, 6), 6);
            due("free(0, 1)", x.free(0, 1), 0);
            due("wall(0, 0, 1)", x.wall(0, 0, 1), 0);
            due("rule(0, 9)", x.rule(0, 9), 120);
            due("rule(1, 9)", x.rule(1, 9), 8);
            due("rule(2, 9)", x.rule(2, 9), 30);
            due("retain(0, 1)", x.retain(0, 1), 1);
            due("trust(0, 1)", x.trust(0, 1), 1);
            due("worth(0, 3, 3)", x.worth(0, 3, 3), 70);
            due("stage(0, 1)", x.stage(0, 1), 70);
            due("payers(0, 1, NONE, NONE)", x.payers(0, 1, NONE, NONE), 1);
            due("bill(0, 3, 0)", x.bill(0, 3, 0), 0);
            due("owes(0, 0, 0)", x.owes(0, 0, 0), 69);
        }
        imagesOfChanges();
        promise = 39;
        x.back();
        x.days(7);
        due("keep(), anew", x.keep(), 10);
        x.days(1);
        due("back()", x.back(), 10);
    }

    /** What can change once it is there: payers, what is owed, cuts, what is charged, stages, tasks. */
    private static void imagesOfChanges() {
        HourHouse x = small();
        x.client();
        for (int i = 0; i < 3; i++) x.matter(0, 0, 0);
        x.payers(0, 1, 101, NONE);
        x.entry(0, 0, 0, 100, 1);
        x.entry(0, 1, 0, 10, 1);
        x.entry(0, 2, 0, 20, 1);
        x.bill(1, 0, 0);
        x.bill(2, 0, 0);
        x.stage(2, 1);
        x.stage(1, 2);
        x.task(0, 20, 1);
        x.free(0, 99);
        x.keep();
        x.payers(0, 102, 1, NONE);
        x.bill(0, 0, 0);
        x.pay(0, 0, 50);
        x.contest(2);
        x.stage(1, 3);
        x.stage(2, 2);
        x.stage(2, 5);
        x.clear();
        x.task(1, 10, 2);
        x.days(5);
        due("back()", x.back(), 0);
        due("told(0, 9)", x.told(0, 9), 0);
        due("told(2, 10)", x.told(2, 10), NONE);
        due("owes(1, 0, 0)", x.owes(1, 0, 0), 140);
        due("plan(1)", x.plan(1), 140);
        due("stage(2, 5)", x.stage(2, 5), 140);
        due("foretold(1, 0), it was not told to be at 2", x.foretold(1, 0), NONE);
        due("bill(0, 0, 0)", x.bill(0, 0, 0), 2);
        due("owes(2, 0, 0)", x.owes(2, 0, 0), 350);
        due("owes(2, 1, 0)", x.owes(2, 1, 0), 350);
    }

    private static void sheets() {
        promise = 41;
        HourHouse x = new HourHouse();
        due("sheet(0, 20)", x.sheet(0, 20), 20);
        due("sheet(0, 21)", x.sheet(0, 21), BAD);
        due("sheet(0, -1)", x.sheet(0, -1), SIZE);
        due("sheet(0, LEAST)", x.sheet(0, LEAST), SIZE);
        due("sheet(2, 1)", x.sheet(2, 1), BAD);
        due("sheet(-1, -1)", x.sheet(-1, -1), BAD);
        promise = 42;
        due("mark(0, 19, 1)", x.mark(0, 19, 1), 0);
        due("mark(0, 19, 65535)", x.mark(0, 19, 65535), 1);
        due("mark(0, 19, 32768)", x.mark(0, 19, 32768), -1);
        due("mark(0, 19, 32767)", x.mark(0, 19, 32767), -32768);
        due("mark(0, 20, 1)", x.mark(0, 20, 1), INDEX);
        due("mark(0, -1, 1)", x.mark(0, -1, 1), INDEX);
        due("mark(1, 0, 1)", x.mark(1, 0, 1), NOTHING);
        due("mark(1, -1, 1)", x.mark(1, -1, 1), NOTHING);
        due("mark(2, 0, 1)", x.mark(2, 0, 1), BAD);
        due("mark(-1, 0, 1)", x.mark(-1, 0, 1), BAD);
        promise = 41;
        x.mark(0, 0, 4);
        due("sheet(0, 20), all 0", x.sheet(0, 20), 20);
        due("mark(0, 19, 5)", x.mark(0, 19, 5), 0);
        due("mark(0, 0, 5)", x.mark(0, 0, 5), 0);
        due("sheet(0, -1)", x.sheet(0, -1), SIZE);
        due("mark(0, 19, 5), as it was", x.mark(0, 19, 5), 5);
        due("sheet(0, 0)", x.sheet(0, 0), 0);
        due("mark(0, 0, 0)", x.mark(0, 0, 0), INDEX);
        promise = 43;
        x.sheet(0, 5);
        due("copy(0, 0, 1, 0, 0)", x.copy(0, 0, 1, 0, 0), NOTHING);
        due("copy(1, 0, 0, 0, 0)", x.copy(1, 0, 0, 0, 0), NOTHING);
        due("copy(1, -1, 0, 0, 0)", x.copy(1, -1, 0, 0, 0), NOTHING);
        due("copy(2, 0, 1, 0, 0)", x.copy(2, 0, 1, 0, 0), BAD);
        due("copy(0, 0, 2, 0, 0)", x.copy(0, 0, 2, 0, 0), BAD);
        due("copy(-1, 0, 0, 0, 0)", x.copy(-1, 0, 0, 0, 0), BAD);
        due("copy(0, 0, -1, 0, 0)", x.copy(0, 0, -1, 0, 0), BAD);
        x.sheet(1, 3);
        for (int i = 0; i < 5; i++) x.mark(0, i, 10 + i);
        due("copy(0, 0, 0, 1, 4)", x.copy(0, 0, 0, 1, 4), 4);
        int[] moved = {10, 10, 11, 12, 13};
        for (int i = 0; i < 5; i++) due("mark(0, " + i + ")", x.mark(0, i, 10 + i), moved[i]);
        due("copy(0, 2, 1, 0, 3)", x.copy(0, 2, 1, 0, 3), 3);
        for (int i = 0; i < 3; i++) due("mark(1, " + i + ")", x.mark(1, i, 0), 12 + i);
        due("copy(0, 3, 1, 0, 3)", x.copy(0, 3, 1, 0, 3), INDEX);
        due("copy(0, 0, 1, 1, 3)", x.copy(0, 0, 1, 1, 3), INDEX);
        due("copy(0, -1, 1, 0, 1)", x.copy(0, -1, 1, 0, 1), INDEX);
        due("copy(0, 0, 1, -1, 1)", x.copy(0, 0, 1, -1, 1), INDEX);
        due("copy(0, 0, 1, 0, -1)", x.copy(0, 0, 1, 0, -1), INDEX);
        due("copy(0, 5, 1, 3, 0), behind the last ones", x.copy(0, 5, 1, 3, 0), 0);
        due("copy(0, 6, 1, 3, 0)", x.copy(0, 6, 1, 3, 0), INDEX);
        due("copy(0, 5, 1, 4, 0)", x.copy(0, 5, 1, 4, 0), INDEX);
        due("copy(0, 1, 1, 0, MOST)", x.copy(0, 1, 1, 0, MOST), INDEX);
        due("copy(0, MOST, 1, 0, 1)", x.copy(0, MOST, 1, 0, 1), INDEX);
        due("copy(0, MOST, 1, MOST, MOST)", x.copy(0, MOST, 1, MOST, MOST), INDEX);
        due("mark(1, 0), nothing came", x.mark(1, 0, 0), 0);
    }

    private static void counts() {
        promise = 44;
        HourHouse x = small();
        x.person(0, 1);
        x.client();
        x.client();
        for (int i = 0; i < 3; i++) x.matter(0, 2, 0);
        for (int i = 0; i < 5; i++) x.entry(0, 0, 0, 1, 0);
        for (int i = 0; i < 6; i++) x.door(0, 0, 1);
        for (int i = 0; i < 3; i++) terms(x, i, 0, "parts 0 rate 0");
        terms(x, 1, 0, "parts 0 rate 0");
        for (int i = 0; i < 7; i++) x.bill(3, 0, 0);
        x.task(0, 1, 0);
        for (int i = 0; i < 9; i++) x.tell(0);
        x.feed(0, 0, 0);
        x.trim(10);
        x.days(11);
        x.trust(0, 5);
        x.trust(1, 7);
        x.retain(0, 6);
        x.retain(3, 7);
        int[] count = {2, 3, 4, 5, 6, 4, 7, 1, 9, 10, 11, 12, 13};
        for (int what = 0; what <= 12; what++) due("count(" + what + ")", x.count(what), count[what]);
        due("count(13)", x.count(13), BAD);
        due("count(-1)", x.count(-1), BAD);
        due("count(LEAST)", x.count(LEAST), BAD);
    }
}
