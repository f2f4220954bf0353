import java.util.ArrayList;
import java.util.Collections;
import java.util.HashSet;
import java.util.List;
import java.util.Set;
import java.util.TreeMap;

/**
 * The document once more, written as differently from HourHouse as may be: lists of records in place
 * of rows, each part of a day asked by itself, texts read by a machine with a pile, plans by counting.
 */
final class NaiveHouse {
    static final int BAD = -1000000001, NO = -1000000002, FULL = -1000000003, SPENT = -1000000004;
    static final int NONE = -1000000005, NOTHING = -1000000011, INDEX = -1000000013, SIZE = -1000000014;

    static final class Person {
        int kind, rate, free;
    }

    static final class Client {
        int trust;
        List<Terms> terms = new ArrayList<>();
    }

    record Terms(int day, List<String> parts, List<String> rate) { }

    record Share(int client, int share) { }

    static final class Matter {
        int kind, client, fee, retainer, stage;
        List<Share> payers = new ArrayList<>();
        Set<Integer> walls = new HashSet<>();
        TreeMap<Integer, Integer> sofar = new TreeMap<>();
    }

    static final class Entry {
        int number, person, matter, day, from, n, code, told;
        Integer withdrawn, bill, cut;
        int charged;
    }

    record Door(int person, int day, int from, int n, int told) { }

    static final class Bill {
        int matter, day, gross, net, retained, entries;
        TreeMap<Integer, Integer> owed = new TreeMap<>();
    }

    record Task(int matter, int parts, int least) { }

    static final class All {
        List<Person> people = new ArrayList<>();
        List<Client> clients = new ArrayList<>();
        List<Matter> matters = new ArrayList<>();
        List<Entry> entries = new ArrayList<>();
        List<Door> doors = new ArrayList<>();
        List<Bill> bills = new ArrayList<>();
        List<Task> tasks = new ArrayList<>();
        int[] rules = {120, 8, 30};
        int today = 0;

        All again() {
            All a = new All();
            for (Person p : people) {
                Person q = new Person();
                q.kind = p.kind; q.rate = p.rate; q.free = p.free;
                a.people.add(q);
            }
            for (Client c : clients) {
                Client d = new Client();
                d.trust = c.trust;
                d.terms.addAll(c.terms);
                a.clients.add(d);
            }
            for (Matter m : matters) {
                Matter n = new Matter();
                n.kind = m.kind; n.client = m.client; n.fee = m.fee; n.retainer = m.retainer; n.stage = m.stage;
                n.payers.addAll(m.payers);
                n.walls.addAll(m.walls);
                n.sofar.putAll(m.sofar);
                a.matters.add(n);
            }
            for (Entry e : entries) {
                Entry f = new Entry();
                f.number = e.number; f.person = e.person; f.matter = e.matter; f.day = e.day; f.from = e.from;
                f.n = e.n; f.code = e.code; f.told = e.told;
                f.withdrawn = e.withdrawn; f.bill = e.bill; f.cut = e.cut; f.charged = e.charged;
                a.entries.add(f);
            }
            a.doors.addAll(doors);
            for (Bill b : bills) {
                Bill c = new Bill();
                c.matter = b.matter; c.day = b.day; c.gross = b.gross; c.net = b.net;
                c.retained = b.retained; c.entries = b.entries;
                c.owed.putAll(b.owed);
                a.bills.add(c);
            }
            a.tasks.addAll(tasks);
            a.rules = rules.clone();
            a.today = today;
            return a;
        }
    }

    private All all = new All();
    private All image = null;
    private String tape = "";
    private List<Integer> waiting = new ArrayList<>();
    private final short[][] sheets = new short[2][];

    private static boolean in(int v, int least, int most) {
        return least <= v && v <= most;
    }

    private static boolean of(int v, List<?> list) {
        return 0 <= v && v < list.size();
    }

    // ---- people, clients, matters

    private static boolean personIs(int kind, int wanted) {
        return switch (wanted) {
            case 0 -> true;
            case 1 -> kind == 1 || kind == 2;
            default -> kind == wanted;
        };
    }

    private static boolean matterIs(int kind, int wanted) {
        return switch (wanted) {
            case 0 -> true;
            case 2 -> kind == 2 || kind == 3;
            default -> kind == wanted;
        };
    }

    int person(int kind, int rate) {
        if (!in(kind, 0, 3) || !in(rate, 1, 999)) return BAD;
        if (all.people.size() == 8) return FULL;
        Person p = new Person();
        p.kind = kind;
        p.rate = rate;
        all.people.add(p);
        return all.people.size() - 1;
    }

    int is(int person, int kind) {
        if (!of(person, all.people) || !in(kind, 0, 3)) return BAD;
        return personIs(all.people.get(person).kind, kind) ? 1 : 0;
    }

    int client() {
        if (all.clients.size() == 5) return FULL;
        all.clients.add(new Client());
        return all.clients.size() - 1;
    }

    int matter(int kind, int client, int fee) {
        if (!in(kind, 0, 3) || !of(client, all.clients) || !in(fee, 0, 99999)) return BAD;
        if (all.matters.size() == 10) return FULL;
        Matter m = new Matter();
        m.kind = kind;
        m.client = client;
        m.fee = fee;
        m.payers.add(new Share(client, 1));
        all.matters.add(m);
        return all.matters.size() - 1;
    }

    int isOf(int matter, int kind) {
        if (!of(matter, all.matters) || !in(kind, 0, 3)) return BAD;
        return matterIs(all.matters.get(matter).kind, kind) ? 1 : 0;
    }

    int payers(int matter, int a, int b, int c) {
        if (!of(matter, all.matters) || a == NONE || (b == NONE && c != NONE)) return BAD;
        List<Share> list = new ArrayList<>();
        Set<Integer> seen = new HashSet<>();
        for (int told : new int[] {a, b, c}) {
            if (told == NONE) continue;
            int client = Math.floorDiv(told, 100);
            int share = Math.floorMod(told, 100);
            if (!of(client, all.clients) || share == 0 || !seen.add(client)) return BAD;
            list.add(new Share(client, share));
        }
        for (Bill x : all.bills) if (x.matter == matter) return NO;
        all.matters.get(matter).payers = list;
        return list.size();
    }

    int wall(int person, int matter, int on) {
        if (!of(person, all.people) || !of(matter, all.matters) || !in(on, 0, 1)) return BAD;
        Set<Integer> walls = all.matters.get(matter).walls;
        int was = walls.contains(person) ? 1 : 0;
        if (on == 1) walls.add(person); else walls.remove(person);
        return was;
    }

    int days(int n) {
        if (!in(n, 1, 100) || all.today + n > 900) return BAD;
        return all.today += n;
    }

    int rule(int which, int v) {
        if (!in(which, 0, 2) || !in(v, 0, new int[] {240, 100, 900}[which])) return BAD;
        int was = all.rules[which];
        all.rules[which] = v;
        return was;
    }

    // ---- entries, doors

    private static boolean badSpan(int parts) {
        if (parts < 0) return true;
        int from = parts / 1000, n = parts - 1000 * from;
        return n < 1 || from > 239 || from + n - 1 > 239;
    }

    int entry(int person, int matter, int day, int parts, int code) {
        if (!of(person, all.people) || !of(matter, all.matters) || !in(day, 0, all.today) || badSpan(parts) || !in(code, 0, 5)) return BAD;
        if (all.matters.get(matter).walls.contains(person)) return NO;
        if (all.entries.size() == 90) return FULL;
        Entry e = new Entry();
        e.number = all.entries.size();
        e.person = person;
        e.matter = matter;
        e.day = day;
        e.from = parts / 1000;
        e.n = parts % 1000;
        e.code = code;
        e.told = all.today;
        all.entries.add(e);
        return e.number;
    }

    int withdraw(int entry) {
        if (!of(entry, all.entries)) return BAD;
        Entry e = all.entries.get(entry);
        if (e.withdrawn != null || e.bill != null) return NO;
        e.withdrawn = all.today;
        return 1;
    }

    int door(int person, int day, int parts) {
        if (!of(person, all.people) || !in(day, 0, all.today) || badSpan(parts)) return BAD;
        if (all.doors.size() == 60) return FULL;
        all.doors.add(new Door(person, day, parts / 1000, parts % 1000, all.today));
        return all.doors.size();
    }

    private static boolean known(Entry e, int k) {
        if (e.told > k) return false;
        return e.withdrawn == null || k < e.withdrawn;
    }

    int written(int person, int day, int known, int what) {
        if (!of(person, all.people) || !in(day, 0, all.today) || !in(known, 0, all.today) || !in(what, 0, 3)) return BAD;
        int written = 0, twice = 0, beyond = 0;
        boolean anyDoor = false;
        for (int part = 0; part < 240; part++) {
            int inEntries = 0, inDoors = 0;
            for (Entry e : all.entries) {
                if (e.person == person && e.day == day && known(e, known) && in(part, e.from, e.from + e.n - 1)) inEntries++;
            }
            for (Door d : all.doors) {
                if (d.person != person || d.day != day || d.told > known) continue;
                anyDoor = true;
                if (in(part, d.from, d.from + d.n - 1)) inDoors++;
            }
            written += inEntries;
            if (inEntries >= 2) twice++;
            if (inEntries >= 1 && inDoors == 0) beyond++;
        }
        return new int[] {written, Math.max(0, written - all.rules[0]), twice, anyDoor ? beyond : 0}[what];
    }

    int told(int entry, int what) {
        if (!of(entry, all.entries) || !in(what, 0, 10)) return BAD;
        Entry e = all.entries.get(entry);
        return new int[] {e.person, e.matter, e.day, e.from, e.n, e.code, e.told,
            e.withdrawn == null ? NONE : e.withdrawn, e.bill == null ? NONE : e.bill, e.charged,
            e.cut == null ? NONE : e.cut}[what];
    }

    int worth(int entry, int known, int what) {
        if (!of(entry, all.entries) || !in(known, 0, all.today) || !in(what, 0, 3)) return BAD;
        Entry e = all.entries.get(entry);
        if (!known(e, known)) return NO;
        return switch (what) {
            case 0 -> counted(e, known);
            case 1 -> at(e, known);
            case 2 -> worthOf(e, known);
            default -> charged(e, known);
        };
    }

    private Terms termsOf(Entry e) {
        Terms found = null;
        for (Terms t : all.clients.get(all.matters.get(e.matter).client).terms) {
            if (t.day > e.day) continue;
            if (found == null || t.day >= found.day) found = t;
        }
        return found;
    }

    private int counted(Entry e, int known) {
        Terms t = termsOf(e);
        return t == null ? e.n : Math.min(240, Math.max(0, value(t.parts, e, known)));
    }

    private int at(Entry e, int known) {
        Terms t = termsOf(e);
        return t == null ? all.people.get(e.person).rate : Math.min(9999, Math.max(0, value(t.rate, e, known)));
    }

    private int worthOf(Entry e, int known) {
        return counted(e, known) * at(e, known) / 10;
    }

    private int charged(Entry e, int known) {
        Matter m = all.matters.get(e.matter);
        int worth = worthOf(e, known);
        if (m.kind == 1) return 0;
        if (m.kind == 0) return worth;
        if (m.kind == 3 && e.code == 5) return worth;
        int used = 0;
        for (Entry f : all.entries) {
            if (f.matter != e.matter || !known(f, known) || f.day / 30 != e.day / 30) continue;
            if (m.kind == 3 && f.code == 5) continue;
            if (f.day < e.day || (f.day == e.day && f.number < e.number)) used += worthOf(f, known);
        }
        return Math.max(0, Math.min(worth, m.fee - used));
    }

    // ---- terms

    int feed(int a, int b, int c) {
        if (tape.length() + 12 > 120) return FULL;
        StringBuilder s = new StringBuilder(tape);
        for (int v : new int[] {a, b, c}) {
            s.append((char) (v >>> 24)).append((char) (v >>> 16 & 255)).append((char) (v >>> 8 & 255)).append((char) (v & 255));
        }
        tape = s.toString();
        return tape.length();
    }

    int trim(int n) {
        if (!in(n, 0, tape.length())) return BAD;
        tape = tape.substring(0, n);
        return n;
    }

    record Token(String text, int at, boolean glued) { }

    private static boolean letter(char c) {
        return 'a' <= c && c <= 'z';
    }

    private static boolean digit(char c) {
        return '0' <= c && c <= '9';
    }

    static List<Token> tokens(String s) {
        List<Token> list = new ArrayList<>();
        int i = 0;
        while (i < s.length()) {
            if (s.charAt(i) == ' ') {
                i++;
                continue;
            }
            int j = i + 1;
            if (letter(s.charAt(i))) while (j < s.length() && letter(s.charAt(j))) j++;
            else if (digit(s.charAt(i))) while (j < s.length() && digit(s.charAt(j))) j++;
            boolean word = letter(s.charAt(i)) || digit(s.charAt(i));
            boolean behind = i > 0 && (letter(s.charAt(i - 1)) || digit(s.charAt(i - 1)));
            list.add(new Token(s.substring(i, j), i, word && behind));
            i = j;
        }
        return list;
    }

    /** A machine with a pile: what is open, whether a test was seen, whether a part is due. */
    static final class Reader {
        final List<String> parts = new ArrayList<>();
        final List<String> rate = new ArrayList<>();
        int leaves = 0;
        private int section = 0;
        private boolean partDue = false;
        private boolean tested = false;
        private int nots = 0;
        private final List<int[]> open = new ArrayList<>();

        /** Whether a text goes on with a word or sign. */
        boolean goesOn(Token t) {
            if (t.glued) return false;
            String s = t.text;
            if (section == 0) {
                section = 1;
                partDue = true;
                return s.equals("parts");
            }
            if (partDue) return part(s);
            if (s.equals("rate") && section == 1 && open.isEmpty()) {
                section = 2;
                partDue = true;
                tested = false;
                return true;
            }
            if (s.equals(")")) {
                if (open.isEmpty()) return false;
                int[] was = open.remove(open.size() - 1);
                tested = was[0] == 1;
                nots = 0;
                row().add(s);
                return true;
            }
            if (s.length() != 1 || "|&<=>+-*/".indexOf(s) < 0) return false;
            if ("<=>".contains(s)) {
                if (tested) return false;
                tested = true;
            }
            if ("|&".contains(s)) tested = false;
            partDue = true;
            row().add(s);
            return true;
        }

        private boolean part(String s) {
            if (s.equals("!")) {
                int all = nots + 1;
                for (int[] o : open) all += o[1];
                if (all > 8) return false;
                nots++;
                row().add(s);
                return true;
            }
            if (s.equals("(")) {
                if (open.size() == 8) return false;
                open.add(new int[] {tested ? 1 : 0, nots});
                tested = false;
                nots = 0;
                row().add(s);
                return true;
            }
            boolean number = digit(s.charAt(0)) && s.length() <= 5;
            boolean name = s.length() == 1 && "nrkcgwm".contains(s);
            if (!number && !name) return false;
            leaves++;
            nots = 0;
            partDue = false;
            row().add(s);
            return true;
        }

        private List<String> row() {
            return section == 1 ? parts : rate;
        }

        boolean mayEnd() {
            return section == 2 && !partDue && open.isEmpty();
        }
    }

    int terms(int client, int day) {
        String text = tape;
        tape = "";
        if (!of(client, all.clients) || !in(day, 0, 900)) return BAD;
        Reader reader = new Reader();
        for (Token t : tokens(text)) if (!reader.goesOn(t)) return -100 - t.at;
        if (!reader.mayEnd()) return -100 - text.length();
        List<Terms> terms = all.clients.get(client).terms;
        if (terms.size() == 3) return FULL;
        terms.add(new Terms(day, reader.parts, reader.rate));
        return reader.leaves;
    }

    private static int strength(String sign) {
        return switch (sign) {
            case "|" -> 1;
            case "&" -> 2;
            case "<", "=", ">" -> 3;
            case "+", "-" -> 4;
            case "*", "/" -> 5;
            case "!" -> 6;
            default -> 0;
        };
    }

    private int value(List<String> row, Entry e, int known) {
        List<Integer> values = new ArrayList<>();
        List<String> signs = new ArrayList<>();
        for (String s : row) {
            if (s.equals("(") || s.equals("!")) {
                signs.add(s);
            } else if (s.equals(")")) {
                while (!signs.get(signs.size() - 1).equals("(")) join(values, signs);
                signs.remove(signs.size() - 1);
            } else if (strength(s) > 0) {
                while (!signs.isEmpty() && strength(signs.get(signs.size() - 1)) >= strength(s)) join(values, signs);
                signs.add(s);
            } else {
                values.add(digit(s.charAt(0)) ? Integer.parseInt(s) : name(s, e, known));
            }
        }
        while (!signs.isEmpty()) join(values, signs);
        return values.get(0);
    }

    private static void join(List<Integer> values, List<String> signs) {
        String sign = signs.remove(signs.size() - 1);
        int b = values.remove(values.size() - 1);
        if (sign.equals("!")) {
            values.add(b == 0 ? 1 : 0);
            return;
        }
        int a = values.remove(values.size() - 1);
        values.add(switch (sign) {
            case "|" -> (a != 0 | b != 0) ? 1 : 0;
            case "&" -> (a != 0 & b != 0) ? 1 : 0;
            case "<" -> a < b ? 1 : 0;
            case "=" -> a == b ? 1 : 0;
            case ">" -> a > b ? 1 : 0;
            case "+" -> (int) ((long) a + b);
            case "-" -> (int) ((long) a - b);
            case "*" -> (int) ((long) a * b);
            default -> b == 0 ? 0 : (int) ((long) a / b);
        });
    }

    private int name(String s, Entry e, int known) {
        switch (s) {
            case "n": return e.n;
            case "r": return all.people.get(e.person).rate;
            case "k": return all.people.get(e.person).kind;
            case "c": return e.code;
            case "g": return all.matters.get(e.matter).kind;
            case "w": return e.day % 7;
            default:
                Set<Integer> others = new HashSet<>();
                for (Entry f : all.entries) {
                    if (f.matter != e.matter || f.day != e.day || f.person == e.person || !known(f, known)) continue;
                    for (int part = e.from; part < e.from + e.n; part++) {
                        if (in(part, f.from, f.from + f.n - 1)) others.add(f.person);
                    }
                }
                return others.size();
        }
    }

    // ---- bills

    private int[] split(Matter m, int coin) {
        int shares = 0;
        for (Share s : m.payers) shares += s.share;
        int[] row = new int[m.payers.size()];
        int given = 0;
        for (int i = 0; i < row.length; i++) {
            row[i] = (int) ((long) coin * m.payers.get(i).share / shares);
            given += row[i];
        }
        for (int i = 0; given < coin; i++, given++) row[i]++;
        return row;
    }

    int bill(int matter, int up, int down) {
        if (!of(matter, all.matters) || !in(up, 0, all.today) || !in(down, 0, 100)) return BAD;
        if (all.bills.size() == 16) return FULL;
        Matter m = all.matters.get(matter);
        Bill b = new Bill();
        b.matter = matter;
        b.day = all.today;
        boolean first = true;
        for (Bill c : all.bills) if (c.matter == matter) first = false;
        for (Entry e : all.entries) {
            if (e.matter == matter && e.day <= up && e.bill == null && known(e, all.today)) {
                e.charged = charged(e, all.today);
                e.bill = all.bills.size();
                b.gross += e.charged;
                b.entries++;
            }
        }
        if (m.kind == 1) b.gross = first ? m.fee : 0;
        b.net = b.gross - (int) (b.gross * (long) down / 100);
        b.retained = Math.min(b.net, m.retainer);
        m.retainer -= b.retained;
        int[] row = split(m, b.net - b.retained);
        for (int i = 0; i < row.length; i++) b.owed.put(m.payers.get(i).client, row[i]);
        all.bills.add(b);
        return all.bills.size() - 1;
    }

    int about(int bill, int what) {
        if (!of(bill, all.bills) || !in(what, 0, 6)) return BAD;
        Bill b = all.bills.get(bill);
        int owed = 0;
        for (int v : b.owed.values()) owed += v;
        return new int[] {b.matter, b.day, b.gross, b.net, b.retained, b.entries, owed}[what];
    }

    int owes(int bill, int client, int what) {
        if (!of(bill, all.bills) || !of(client, all.clients) || !in(what, 0, 1)) return BAD;
        Bill b = all.bills.get(bill);
        long owed = b.owed.getOrDefault(client, 0);
        if (what == 0) return (int) owed;
        int beyond = all.today - b.day - all.rules[2];
        return beyond < 0 ? 0 : (int) (owed * all.rules[1] * beyond / 36500);
    }

    int retain(int matter, int coin) {
        if (!of(matter, all.matters) || !in(coin, 1, 99999)) return BAD;
        Matter m = all.matters.get(matter);
        if (m.retainer + coin > 999999) return FULL;
        return m.retainer += coin;
    }

    int trust(int client, int coin) {
        if (!of(client, all.clients) || !in(coin, 0, 99999)) return BAD;
        Client c = all.clients.get(client);
        if (c.trust + coin > 9999999) return FULL;
        return c.trust += coin;
    }

    int draw(int bill, int client) {
        if (!of(bill, all.bills) || !of(client, all.clients)) return BAD;
        Bill b = all.bills.get(bill);
        Client c = all.clients.get(client);
        int drawn = Math.min(b.owed.getOrDefault(client, 0), c.trust);
        if (b.owed.containsKey(client)) b.owed.put(client, b.owed.get(client) - drawn);
        c.trust -= drawn;
        return drawn;
    }

    int pay(int bill, int client, int coin) {
        if (!of(bill, all.bills) || !of(client, all.clients) || !in(coin, 1, 99999)) return BAD;
        Bill b = all.bills.get(bill);
        Client c = all.clients.get(client);
        if (!b.owed.containsKey(client)) return NO;
        int more = Math.max(0, coin - b.owed.get(client));
        if (c.trust + more > 9999999) return FULL;
        b.owed.put(client, b.owed.get(client) - (coin - more));
        c.trust += more;
        return more;
    }

    private List<Integer> like(Entry e) {
        List<Integer> list = new ArrayList<>();
        for (Entry f : all.entries) {
            if (f.bill == null || f.bill.intValue() == e.bill.intValue() || f.cut != null || f.code != e.code) continue;
            if (all.people.get(f.person).kind != all.people.get(e.person).kind) continue;
            int counted = counted(f, all.today);
            if (counted > 0) list.add(counted);
        }
        Collections.sort(list);
        return list;
    }

    private static int middleOf(List<Integer> list) {
        int n = list.size();
        return n % 2 == 1 ? list.get(n / 2) : list.get(n / 2 - 1);
    }

    int contest(int entry) {
        if (!of(entry, all.entries)) return BAD;
        Entry e = all.entries.get(entry);
        if (e.bill == null || e.cut != null || like(e).isEmpty()) return NO;
        int middle = middleOf(like(e));
        int counted = counted(e, all.today);
        int cut = counted > middle ? e.charged - e.charged * middle / counted : 0;
        Matter m = all.matters.get(e.matter);
        Bill b = all.bills.get(e.bill);
        int[] row = split(m, cut);
        for (int i = 0; i < row.length; i++) {
            int client = m.payers.get(i).client;
            int more = Math.max(0, row[i] - b.owed.get(client));
            if (all.clients.get(client).trust + more > 9999999) return FULL;
        }
        for (int i = 0; i < row.length; i++) {
            int client = m.payers.get(i).client;
            int more = Math.max(0, row[i] - b.owed.get(client));
            all.clients.get(client).trust += more;
            b.owed.put(client, b.owed.get(client) - (row[i] - more));
        }
        e.cut = cut;
        return cut;
    }

    int middle(int entry) {
        if (!of(entry, all.entries)) return BAD;
        Entry e = all.entries.get(entry);
        if (e.bill == null || like(e).isEmpty()) return NO;
        return middleOf(like(e));
    }

    // ---- stages, tasks

    int stage(int matter, int s) {
        if (!of(matter, all.matters) || !in(s, 1, 5)) return BAD;
        Matter m = all.matters.get(matter);
        if (s <= m.stage) return NO;
        m.stage = s;
        int sum = 0;
        for (Entry e : all.entries) if (e.matter == matter && known(e, all.today)) sum += charged(e, all.today);
        m.sofar.put(s, sum);
        return sum;
    }

    int foretold(int matter, int end) {
        if (!of(matter, all.matters) || !in(end, 0, 1)) return BAD;
        Matter m = all.matters.get(matter);
        if (m.stage == 0 || m.stage == 5) return NO;
        List<Long> list = new ArrayList<>();
        for (Matter o : all.matters) {
            if (o == m || o.kind != m.kind || !o.sofar.containsKey(5) || o.sofar.getOrDefault(m.stage, 0) == 0) continue;
            list.add((long) m.sofar.get(m.stage) * o.sofar.get(5) / o.sofar.get(m.stage));
        }
        if (list.isEmpty()) return NONE;
        return (int) Math.min(99999999L, end == 0 ? Collections.min(list) : Collections.max(list));
    }

    int task(int matter, int parts, int least) {
        if (!of(matter, all.matters) || !in(parts, 1, 999) || !in(least, 0, 2)) return BAD;
        if (all.tasks.size() == 6) return FULL;
        all.tasks.add(new Task(matter, parts, least));
        return all.tasks.size() - 1;
    }

    int clear() {
        int were = all.tasks.size();
        all.tasks.clear();
        return were;
    }

    int free(int person, int v) {
        if (!of(person, all.people) || !in(v, 0, 9999)) return BAD;
        int was = all.people.get(person).free;
        all.people.get(person).free = v;
        return was;
    }

    int lay(int sheet) {
        if (!in(sheet, 0, 1)) return BAD;
        if (sheets[sheet] == null) return NOTHING;
        int i = 0;
        for (; i < sheets[sheet].length && i < all.people.size(); i++) {
            int v = sheets[sheet][i];
            all.people.get(i).free = v < 0 ? 0 : v > 9999 ? 9999 : v;
        }
        return i;
    }

    private boolean fits(List<Integer> row) {
        int[] used = new int[all.people.size()];
        for (int t = 0; t < row.size(); t++) {
            Person p = all.people.get(row.get(t));
            Task task = all.tasks.get(t);
            if (!personIs(p.kind, task.least) || all.matters.get(task.matter).walls.contains(row.get(t))) return false;
            used[row.get(t)] += task.parts;
            if (used[row.get(t)] > p.free) return false;
        }
        return true;
    }

    private int cost(List<Integer> row, int tasks) {
        int cost = 0;
        for (int t = 0; t < tasks; t++) cost += all.tasks.get(t).parts * all.people.get(row.get(t)).rate / 10;
        return cost;
    }

    private List<Integer> plan = null;

    /** All rows of one task, then all of two that go on from these, and so on: each one is a try. */
    private int seek(int tries) {
        plan = null;
        List<List<Integer>> rows = new ArrayList<>();
        rows.add(List.of());
        int done = 0;
        for (int t = 0; t < all.tasks.size(); t++) {
            List<List<Integer>> next = new ArrayList<>();
            for (List<Integer> row : rows) {
                for (int p = 0; p < all.people.size(); p++) {
                    List<Integer> longer = new ArrayList<>(row);
                    longer.add(p);
                    if (!fits(longer)) continue;
                    if (++done > tries) return SPENT;
                    next.add(longer);
                }
            }
            rows = next;
        }
        int least = Integer.MAX_VALUE;
        for (List<Integer> row : rows) {
            if (cost(row, row.size()) < least) {
                least = cost(row, row.size());
                plan = row;
            }
        }
        return plan == null ? NO : least;
    }

    int plan(int tries) {
        return in(tries, 1, 30000) ? seek(tries) : BAD;
    }

    int planned(int tries, int task) {
        if (!in(tries, 1, 30000) || !of(task, all.tasks)) return BAD;
        int cost = seek(tries);
        return plan == null ? cost : plan.get(task);
    }

    int tell(int v) {
        if (waiting.size() == 20) return FULL;
        waiting.add(v);
        return waiting.size();
    }

    int check() {
        List<Integer> told = waiting;
        waiting = new ArrayList<>();
        int cost = seek(30000);
        if (plan == null) return cost;
        List<Integer> rows = new ArrayList<>();
        for (int t = 0; t < plan.size(); t++) {
            rows.add(plan.get(t));
            rows.add(cost(plan, t + 1));
        }
        if (rows.equals(told)) return 0;
        int right = 0;
        while (right < rows.size() && right < told.size() && rows.get(right).equals(told.get(right))) right++;
        return 1 + right;
    }

    // ---- images, sheets

    int keep() {
        image = all.again();
        return all.today;
    }

    int back() {
        if (image == null) return NO;
        all = image.again();
        return all.today;
    }

    int sheet(int s, int n) {
        if (!in(s, 0, 1) || n > 20) return BAD;
        if (n < 0) return SIZE;
        sheets[s] = new short[n];
        return n;
    }

    int mark(int s, int place, int v) {
        if (!in(s, 0, 1)) return BAD;
        if (sheets[s] == null) return NOTHING;
        if (!in(place, 0, sheets[s].length - 1)) return INDEX;
        int was = sheets[s][place];
        sheets[s][place] = (short) v;
        return was;
    }

    int copy(int from, int place, int to, int at, int many) {
        if (!in(from, 0, 1) || !in(to, 0, 1)) return BAD;
        if (sheets[from] == null || sheets[to] == null) return NOTHING;
        if (many < 0 || place < 0 || at < 0) return INDEX;
        if ((long) place + many > sheets[from].length || (long) at + many > sheets[to].length) return INDEX;
        short[] were = sheets[from].clone();
        for (int i = 0; i < many; i++) sheets[to][at + i] = were[place + i];
        return many;
    }

    int count(int what) {
        int terms = 0, trust = 0, retainers = 0;
        for (Client c : all.clients) {
            terms += c.terms.size();
            trust += c.trust;
        }
        for (Matter m : all.matters) retainers += m.retainer;
        if (!in(what, 0, 12)) return BAD;
        return new int[] {all.people.size(), all.clients.size(), all.matters.size(), all.entries.size(), all.doors.size(),
            terms, all.bills.size(), all.tasks.size(), waiting.size(), tape.length(), all.today, trust, retainers}[what];
    }

    /** The rows that are due, to be told by a test; null if there is no plan. */
    List<Integer> dueRows() {
        if (seek(30000) < 0) return null;
        List<Integer> rows = new ArrayList<>();
        for (int t = 0; t < plan.size(); t++) {
            rows.add(plan.get(t));
            rows.add(cost(plan, t + 1));
        }
        return rows;
    }
}
