import java.util.Arrays;

/**
 * A house of lawyers: hours written down, terms, bills, trust coin, stages and plans.
 *
 * All rows are made once, with the object, and used again: no call makes an object of its own.
 */
public final class HourHouse {
    public static final int BAD = -1000000001, NO = -1000000002, FULL = -1000000003, SPENT = -1000000004, NONE = -1000000005, NOTHING = -1000000011, INDEX = -1000000013, SIZE = -1000000014;

    private static final int MOST_PEOPLE = 8, MOST_CLIENTS = 5, MOST_MATTERS = 10, MOST_ENTRIES = 90, MOST_DOORS = 60;
    private static final int MOST_TERMS = 3, MOST_BILLS = 16, MOST_TASKS = 6, MOST_PAYERS = 3, MOST_WAITING = 20;
    private static final int LAST_DAY = 900, DAYS_OF_MONTH = 30, PARTS_OF_DAY = 240, TAPE_BYTES = 120;
    private static final int CLERK = 0, LAWYER = 1, PARTNER = 2;
    private static final int FIXED = 1, CAPPED = 2, TRIAL = 3, LAST_KIND = 3;
    private static final int TRAVEL = 5, LAST_CODE = 5;
    private static final int STAGES = 6, LAST_STAGE = 5;
    private static final int HOLDS = 0, INTEREST = 1, GRACE = 2, RULES = 3;
    private static final int MOST_FEE = 99999, MOST_COIN = 99999, MOST_RETAINER = 999999, MOST_TRUST = 9999999, MOST_FORETOLD = 99999999;
    private static final int MOST_COUNTED = 240, MOST_AT = 9999, MOST_FREE = 9999, MOST_TASK_PARTS = 999, MOST_RATE = 999;
    private static final int MOST_TRIES = 30000;
    private static final int SHEETS = 2, PLACES = 20, MISSING = -1;

    private final House now;
    private final House image;
    private boolean imageKept;
    private final Tape tape;
    private final Worths worths;
    private final Planner planner;
    private final int[] waiting;
    private int waitingSize;
    private final short[] places;
    private final int[] sheetSizes;
    private final int[] inEntries;
    private final int[] inDoors;
    private final int[] pieces;

    public HourHouse() {
        now = new House();
        image = new House();
        imageKept = false;
        tape = new Tape();
        worths = new Worths(now);
        planner = new Planner(now);
        waiting = new int[MOST_WAITING];
        waitingSize = 0;
        places = new short[SHEETS * PLACES];
        sheetSizes = new int[] {MISSING, MISSING};
        inEntries = new int[PARTS_OF_DAY];
        inDoors = new int[PARTS_OF_DAY];
        pieces = new int[MOST_PAYERS];
    }

    // ---- people, clients, matters

    public int person(int kind, int rate) {
        if (!within(kind, 0, LAST_KIND) || !within(rate, 1, MOST_RATE)) {
            return BAD;
        }
        People people = now.people;
        if (people.size >= MOST_PEOPLE) {
            return FULL;
        }
        int number = people.size;
        people.kinds[number] = kind;
        people.rates[number] = rate;
        people.spares[number] = 0;
        people.size = number + 1;
        return number;
    }

    public int is(int person, int kind) {
        if (!now.people.has(person) || !within(kind, 0, LAST_KIND)) {
            return BAD;
        }
        return now.people.isUnder(person, kind) ? 1 : 0;
    }

    public int client() {
        Clients clients = now.clients;
        if (clients.size >= MOST_CLIENTS) {
            return FULL;
        }
        int number = clients.size;
        clients.trusts[number] = 0;
        clients.termCounts[number] = 0;
        clients.size = number + 1;
        return number;
    }

    public int matter(int kind, int client, int fee) {
        if (!within(kind, 0, LAST_KIND) || !now.clients.has(client) || !within(fee, 0, MOST_FEE)) {
            return BAD;
        }
        if (now.matters.size >= MOST_MATTERS) {
            return FULL;
        }
        return now.matters.begin(kind, client, fee);
    }

    public int isOf(int matter, int kind) {
        if (!now.matters.has(matter) || !within(kind, 0, LAST_KIND)) {
            return BAD;
        }
        return now.matters.isUnder(matter, kind) ? 1 : 0;
    }

    public int payers(int matter, int a, int b, int c) {
        if (!now.matters.has(matter) || !isPayer(a)) {
            return BAD;
        }
        int many = 1;
        if (b != NONE) {
            if (!isPayer(b) || b / 100 == a / 100) {
                return BAD;
            }
            many = 2;
        }
        if (c != NONE) {
            if (b == NONE || !isPayer(c) || c / 100 == a / 100 || c / 100 == b / 100) {
                return BAD;
            }
            many = 3;
        }
        if (now.bills.isAnyOf(matter)) {
            return NO;
        }
        now.matters.putPayer(matter, 0, a);
        if (many > 1) {
            now.matters.putPayer(matter, 1, b);
        }
        if (many > 2) {
            now.matters.putPayer(matter, 2, c);
        }
        now.matters.payerCounts[matter] = many;
        return many;
    }

    public int wall(int person, int matter, int on) {
        if (!now.people.has(person) || !now.matters.has(matter) || !within(on, 0, 1)) {
            return BAD;
        }
        int place = matter * MOST_PEOPLE + person;
        int was = now.matters.walls[place];
        now.matters.walls[place] = on;
        return was;
    }

    public int days(int n) {
        if (!within(n, 1, 100) || now.today + n > LAST_DAY) {
            return BAD;
        }
        now.today += n;
        return now.today;
    }

    public int rule(int which, int v) {
        if (!within(which, 0, RULES - 1) || !within(v, 0, mostOfRule(which))) {
            return BAD;
        }
        int was = now.rules[which];
        now.rules[which] = v;
        return was;
    }

    // ---- entries, doors

    public int entry(int person, int matter, int day, int parts, int code) {
        if (!now.people.has(person) || !now.matters.has(matter) || !isPast(day) || !isSpan(parts) || !within(code, 0, LAST_CODE)) {
            return BAD;
        }
        if (now.matters.hasWall(person, matter)) {
            return NO;
        }
        Entries entries = now.entries;
        if (entries.size >= MOST_ENTRIES) {
            return FULL;
        }
        int number = entries.size;
        entries.persons[number] = person;
        entries.matters[number] = matter;
        entries.days[number] = day;
        entries.froms[number] = parts / 1000;
        entries.lengths[number] = parts % 1000;
        entries.codes[number] = code;
        entries.toldOn[number] = now.today;
        entries.withdrawnOn[number] = NONE;
        entries.bills[number] = NONE;
        entries.charges[number] = 0;
        entries.cuts[number] = NONE;
        entries.size = number + 1;
        return number;
    }

    public int withdraw(int entry) {
        Entries entries = now.entries;
        if (!entries.has(entry)) {
            return BAD;
        }
        if (entries.withdrawnOn[entry] != NONE || entries.bills[entry] != NONE) {
            return NO;
        }
        entries.withdrawnOn[entry] = now.today;
        return 1;
    }

    public int door(int person, int day, int parts) {
        if (!now.people.has(person) || !isPast(day) || !isSpan(parts)) {
            return BAD;
        }
        Doors doors = now.doors;
        if (doors.size >= MOST_DOORS) {
            return FULL;
        }
        int number = doors.size;
        doors.persons[number] = person;
        doors.days[number] = day;
        doors.froms[number] = parts / 1000;
        doors.lengths[number] = parts % 1000;
        doors.toldOn[number] = now.today;
        doors.size = number + 1;
        return doors.size;
    }

    public int written(int person, int day, int known, int what) {
        if (!now.people.has(person) || !isPast(day) || !isPast(known) || !within(what, 0, 3)) {
            return BAD;
        }
        Arrays.fill(inEntries, 0);
        int all = now.entries.layOut(person, day, known, inEntries);
        switch (what) {
            case 0:
                return all;
            case 1:
                return Math.max(0, all - now.rules[HOLDS]);
            case 2:
                return partsInTwo();
            default:
                return partsBeyond(person, day, known);
        }
    }

    public int told(int entry, int what) {
        Entries entries = now.entries;
        if (!entries.has(entry)) {
            return BAD;
        }
        switch (what) {
            case 0:
                return entries.persons[entry];
            case 1:
                return entries.matters[entry];
            case 2:
                return entries.days[entry];
            case 3:
                return entries.froms[entry];
            case 4:
                return entries.lengths[entry];
            case 5:
                return entries.codes[entry];
            case 6:
                return entries.toldOn[entry];
            case 7:
                return entries.withdrawnOn[entry];
            case 8:
                return entries.bills[entry];
            case 9:
                return entries.charges[entry];
            case 10:
                return entries.cuts[entry];
            default:
                return BAD;
        }
    }

    public int worth(int entry, int known, int what) {
        if (!now.entries.has(entry) || !isPast(known) || !within(what, 0, 3)) {
            return BAD;
        }
        if (!now.entries.isKnown(entry, known)) {
            return NO;
        }
        switch (what) {
            case 0:
                return worths.countedOf(entry, known);
            case 1:
                return worths.atOf(entry, known);
            case 2:
                return worths.worthOf(entry, known);
            default:
                worths.chargeMatter(now.entries.matters[entry], known);
                return worths.charges[entry];
        }
    }

    // ---- terms

    public int feed(int a, int b, int c) {
        if (tape.size + 12 > TAPE_BYTES) {
            return FULL;
        }
        tape.putFour(a);
        tape.putFour(b);
        tape.putFour(c);
        return tape.size;
    }

    public int trim(int n) {
        if (!within(n, 0, tape.size)) {
            return BAD;
        }
        tape.size = n;
        return n;
    }

    public int terms(int client, int day) {
        boolean asked = now.clients.has(client) && within(day, 0, LAST_DAY);
        int fault = asked ? tape.readText() : NONE;
        tape.size = 0;
        if (!asked) {
            return BAD;
        }
        if (fault != NONE) {
            return -100 - fault;
        }
        Clients clients = now.clients;
        if (clients.termCounts[client] >= MOST_TERMS) {
            return FULL;
        }
        int slot = client * MOST_TERMS + clients.termCounts[client];
        clients.termDays[slot] = day;
        clients.partsEnds[slot] = tape.partsEnd;
        clients.rateEnds[slot] = tape.codeSize;
        System.arraycopy(tape.code, 0, clients.codes, slot * TAPE_BYTES, TAPE_BYTES);
        clients.termCounts[client]++;
        return tape.leaves;
    }

    // ---- bills

    public int bill(int matter, int up, int down) {
        if (!now.matters.has(matter) || !isPast(up) || !within(down, 0, 100)) {
            return BAD;
        }
        Bills bills = now.bills;
        if (bills.size >= MOST_BILLS) {
            return FULL;
        }
        int number = bills.size;
        boolean isFirst = !bills.isAnyOf(matter);
        bills.matters[number] = matter;
        bills.days[number] = now.today;
        worths.chargeMatter(matter, now.today);
        int gross = takeEntries(number, matter, up);
        if (now.matters.kinds[matter] == FIXED) {
            gross = isFirst ? now.matters.fees[matter] : 0;
        }
        int net = gross - (int) ((long) gross * down / 100);
        int retained = Math.min(net, now.matters.retainers[matter]);
        now.matters.retainers[matter] -= retained;
        bills.grosses[number] = gross;
        bills.nets[number] = net;
        bills.retained[number] = retained;
        now.matters.split(matter, net - retained, pieces);
        for (int i = 0; i < MOST_PAYERS; i++) {
            bills.owed[number * MOST_PAYERS + i] = pieces[i];
        }
        bills.size = number + 1;
        return number;
    }

    public int about(int bill, int what) {
        Bills bills = now.bills;
        if (!bills.has(bill)) {
            return BAD;
        }
        switch (what) {
            case 0:
                return bills.matters[bill];
            case 1:
                return bills.days[bill];
            case 2:
                return bills.grosses[bill];
            case 3:
                return bills.nets[bill];
            case 4:
                return bills.retained[bill];
            case 5:
                return bills.entryCounts[bill];
            case 6:
                return bills.owedByAll(bill);
            default:
                return BAD;
        }
    }

    public int owes(int bill, int client, int what) {
        if (!now.bills.has(bill) || !now.clients.has(client) || !within(what, 0, 1)) {
            return BAD;
        }
        int place = owedPlace(bill, client);
        int owed = place < 0 ? 0 : now.bills.owed[place];
        return what == 0 ? owed : interestOf(owed, now.bills.days[bill]);
    }

    public int retain(int matter, int coin) {
        if (!now.matters.has(matter) || !within(coin, 1, MOST_COIN)) {
            return BAD;
        }
        int all = now.matters.retainers[matter] + coin;
        if (all > MOST_RETAINER) {
            return FULL;
        }
        now.matters.retainers[matter] = all;
        return all;
    }

    public int trust(int client, int coin) {
        if (!now.clients.has(client) || !within(coin, 0, MOST_COIN)) {
            return BAD;
        }
        int all = now.clients.trusts[client] + coin;
        if (all > MOST_TRUST) {
            return FULL;
        }
        now.clients.trusts[client] = all;
        return all;
    }

    public int draw(int bill, int client) {
        if (!now.bills.has(bill) || !now.clients.has(client)) {
            return BAD;
        }
        int place = owedPlace(bill, client);
        if (place < 0) {
            return 0;
        }
        int drawn = Math.min(now.bills.owed[place], now.clients.trusts[client]);
        now.bills.owed[place] -= drawn;
        now.clients.trusts[client] -= drawn;
        return drawn;
    }

    public int pay(int bill, int client, int coin) {
        if (!now.bills.has(bill) || !now.clients.has(client) || !within(coin, 1, MOST_COIN)) {
            return BAD;
        }
        int place = owedPlace(bill, client);
        if (place < 0) {
            return NO;
        }
        int used = Math.min(now.bills.owed[place], coin);
        int more = coin - used;
        if (now.clients.trusts[client] + more > MOST_TRUST) {
            return FULL;
        }
        now.bills.owed[place] -= used;
        now.clients.trusts[client] += more;
        return more;
    }

    public int contest(int entry) {
        Entries entries = now.entries;
        if (!entries.has(entry)) {
            return BAD;
        }
        if (entries.bills[entry] == NONE || entries.cuts[entry] != NONE) {
            return NO;
        }
        int middle = worths.middleFor(entry);
        if (middle == NONE) {
            return NO;
        }
        int counted = worths.countedOf(entry, now.today);
        int charged = entries.charges[entry];
        int cut = 0;
        if (counted > 0 && counted > middle) {
            cut = charged - (int) ((long) charged * middle / counted);
        }
        now.matters.split(entries.matters[entry], cut, pieces);
        if (!canGiveBack(entries.bills[entry])) {
            return FULL;
        }
        giveBack(entries.bills[entry]);
        entries.cuts[entry] = cut;
        return cut;
    }

    public int middle(int entry) {
        if (!now.entries.has(entry)) {
            return BAD;
        }
        if (now.entries.bills[entry] == NONE) {
            return NO;
        }
        int middle = worths.middleFor(entry);
        return middle == NONE ? NO : middle;
    }

    // ---- stages, tasks

    public int stage(int matter, int s) {
        if (!now.matters.has(matter) || !within(s, 1, LAST_STAGE)) {
            return BAD;
        }
        if (s <= now.matters.stages[matter]) {
            return NO;
        }
        int sofar = worths.chargeMatter(matter, now.today);
        now.matters.stages[matter] = s;
        now.matters.sofars[matter * STAGES + s] = sofar;
        return sofar;
    }

    public int foretold(int matter, int end) {
        Matters matters = now.matters;
        if (!matters.has(matter) || !within(end, 0, 1)) {
            return BAD;
        }
        int at = matters.stages[matter];
        if (at == 0 || at == LAST_STAGE) {
            return NO;
        }
        int found = NONE;
        for (int other = 0; other < matters.size; other++) {
            if (other == matter || matters.kinds[other] != matters.kinds[matter] || matters.stages[other] != LAST_STAGE) {
                continue;
            }
            int theirs = matters.sofars[other * STAGES + at];
            if (theirs > 0) {
                long whole = (long) matters.sofars[matter * STAGES + at] * matters.sofars[other * STAGES + LAST_STAGE];
                int gives = (int) Math.min(MOST_FORETOLD, whole / theirs);
                if (found == NONE || (end == 0 ? gives < found : gives > found)) {
                    found = gives;
                }
            }
        }
        return found;
    }

    public int task(int matter, int parts, int least) {
        if (!now.matters.has(matter) || !within(parts, 1, MOST_TASK_PARTS) || !within(least, CLERK, PARTNER)) {
            return BAD;
        }
        Tasks tasks = now.tasks;
        if (tasks.size >= MOST_TASKS) {
            return FULL;
        }
        int number = tasks.size;
        tasks.matters[number] = matter;
        tasks.parts[number] = parts;
        tasks.leasts[number] = least;
        tasks.size = number + 1;
        return number;
    }

    public int clear() {
        int were = now.tasks.size;
        now.tasks.size = 0;
        return were;
    }

    public int free(int person, int v) {
        if (!now.people.has(person) || !within(v, 0, MOST_FREE)) {
            return BAD;
        }
        int was = now.people.spares[person];
        now.people.spares[person] = v;
        return was;
    }

    public int lay(int sheet) {
        if (!within(sheet, 0, SHEETS - 1)) {
            return BAD;
        }
        if (sheetSizes[sheet] == MISSING) {
            return NOTHING;
        }
        int many = Math.min(sheetSizes[sheet], now.people.size);
        for (int i = 0; i < many; i++) {
            now.people.spares[i] = Math.max(0, Math.min(MOST_FREE, places[sheet * PLACES + i]));
        }
        return many;
    }

    public int plan(int tries) {
        if (!within(tries, 1, MOST_TRIES)) {
            return BAD;
        }
        return planner.seek(tries);
    }

    public int planned(int tries, int task) {
        if (!within(tries, 1, MOST_TRIES) || !within(task, 0, now.tasks.size - 1)) {
            return BAD;
        }
        int cost = planner.seek(tries);
        return cost < 0 ? cost : planner.best[task];
    }

    public int tell(int v) {
        if (waitingSize >= MOST_WAITING) {
            return FULL;
        }
        waiting[waitingSize] = v;
        waitingSize++;
        return waitingSize;
    }

    public int check() {
        int many = waitingSize;
        waitingSize = 0;
        int cost = planner.seek(MOST_TRIES);
        if (cost < 0) {
            return cost;
        }
        int due = 2 * now.tasks.size;
        int sofar = 0;
        for (int i = 0; i < due; i++) {
            int task = i / 2;
            int right = planner.best[task];
            if (i % 2 == 1) {
                sofar += planner.costOf(task, planner.best[task]);
                right = sofar;
            }
            if (i >= many || waiting[i] != right) {
                return 1 + i;
            }
        }
        return many > due ? 1 + due : 0;
    }

    // ---- images, sheets

    public int keep() {
        image.become(now);
        imageKept = true;
        return now.today;
    }

    public int back() {
        if (!imageKept) {
            return NO;
        }
        now.become(image);
        return now.today;
    }

    public int sheet(int s, int n) {
        if (!within(s, 0, SHEETS - 1) || n > PLACES) {
            return BAD;
        }
        if (n < 0) {
            return SIZE;
        }
        for (int i = 0; i < PLACES; i++) {
            places[s * PLACES + i] = 0;
        }
        sheetSizes[s] = n;
        return n;
    }

    public int mark(int s, int place, int v) {
        if (!within(s, 0, SHEETS - 1)) {
            return BAD;
        }
        if (sheetSizes[s] == MISSING) {
            return NOTHING;
        }
        if (!within(place, 0, sheetSizes[s] - 1)) {
            return INDEX;
        }
        int was = places[s * PLACES + place];
        places[s * PLACES + place] = (short) v;
        return was;
    }

    public int copy(int from, int place, int to, int at, int many) {
        if (!within(from, 0, SHEETS - 1) || !within(to, 0, SHEETS - 1)) {
            return BAD;
        }
        if (sheetSizes[from] == MISSING || sheetSizes[to] == MISSING) {
            return NOTHING;
        }
        if (!hasPlaces(from, place, many) || !hasPlaces(to, at, many)) {
            return INDEX;
        }
        System.arraycopy(places, from * PLACES + place, places, to * PLACES + at, many);
        return many;
    }

    public int count(int what) {
        switch (what) {
            case 0:
                return now.people.size;
            case 1:
                return now.clients.size;
            case 2:
                return now.matters.size;
            case 3:
                return now.entries.size;
            case 4:
                return now.doors.size;
            case 5:
                return sumOf(now.clients.termCounts, now.clients.size);
            case 6:
                return now.bills.size;
            case 7:
                return now.tasks.size;
            case 8:
                return waitingSize;
            case 9:
                return tape.size;
            case 10:
                return now.today;
            case 11:
                return sumOf(now.clients.trusts, now.clients.size);
            case 12:
                return sumOf(now.matters.retainers, now.matters.size);
            default:
                return BAD;
        }
    }

    // ---- helpers of the calls above

    private static boolean within(int v, int least, int most) {
        return v >= least && v <= most;
    }

    private static int sumOf(int[] row, int size) {
        int sum = 0;
        for (int i = 0; i < size && i < row.length; i++) {
            sum += row[i];
        }
        return sum;
    }

    private static void takeOver(int[] from, int[] to) {
        System.arraycopy(from, 0, to, 0, Math.min(from.length, to.length));
    }

    private static int mostOfRule(int which) {
        switch (which) {
            case HOLDS:
                return 240;
            case INTEREST:
                return 100;
            default:
                return LAST_DAY;
        }
    }

    private boolean isPast(int day) {
        return within(day, 0, now.today);
    }

    /** Whether 1000 * from and n are at least one part, all within the day. */
    private static boolean isSpan(int parts) {
        if (parts < 0) {
            return false;
        }
        int from = parts / 1000;
        int n = parts % 1000;
        return n >= 1 && from < PARTS_OF_DAY && from + n <= PARTS_OF_DAY;
    }

    /** Whether 100 * client and share tell a client that is there, with a share. */
    private boolean isPayer(int told) {
        return told >= 0 && now.clients.has(told / 100) && told % 100 >= 1;
    }

    private int partsInTwo() {
        int many = 0;
        for (int i = 0; i < PARTS_OF_DAY; i++) {
            if (inEntries[i] > 1) {
                many++;
            }
        }
        return many;
    }

    private int partsBeyond(int person, int day, int known) {
        Arrays.fill(inDoors, 0);
        if (now.doors.layOut(person, day, known, inDoors) == 0) {
            return 0;
        }
        int many = 0;
        for (int i = 0; i < PARTS_OF_DAY; i++) {
            if (inEntries[i] > 0 && inDoors[i] == 0) {
                many++;
            }
        }
        return many;
    }

    /** Puts all entries that a bill takes into it, as they are charged in worths: all of that together. */
    private int takeEntries(int bill, int matter, int up) {
        Entries entries = now.entries;
        int charged = 0;
        int many = 0;
        for (int e = 0; e < entries.size; e++) {
            boolean isDue = entries.matters[e] == matter && entries.days[e] <= up && entries.bills[e] == NONE;
            if (isDue && entries.isKnown(e, now.today)) {
                entries.bills[e] = bill;
                entries.charges[e] = worths.charges[e];
                charged += worths.charges[e];
                many++;
            }
        }
        now.bills.entryCounts[bill] = many;
        return charged;
    }

    /** The place of what a client owes of a bill; below 0 if it is no payer of it. */
    private int owedPlace(int bill, int client) {
        int payer = now.matters.payerPlace(now.bills.matters[bill], client);
        return payer < 0 ? -1 : bill * MOST_PAYERS + payer;
    }

    private int interestOf(int owed, int billDay) {
        int late = Math.max(0, now.today - billDay - now.rules[GRACE]);
        return (int) ((long) owed * now.rules[INTEREST] * late / 36500);
    }

    /** Whether the pieces of a cut that go beyond what is owed still fit into trust. */
    private boolean canGiveBack(int bill) {
        int matter = now.bills.matters[bill];
        for (int i = 0; i < now.matters.payerCounts[matter]; i++) {
            int more = Math.max(0, pieces[i] - now.bills.owed[bill * MOST_PAYERS + i]);
            int client = now.matters.payerClients[matter * MOST_PAYERS + i];
            if (now.clients.trusts[client] + more > MOST_TRUST) {
                return false;
            }
        }
        return true;
    }

    private void giveBack(int bill) {
        int matter = now.bills.matters[bill];
        for (int i = 0; i < now.matters.payerCounts[matter]; i++) {
            int place = bill * MOST_PAYERS + i;
            int off = Math.min(pieces[i], now.bills.owed[place]);
            int client = now.matters.payerClients[matter * MOST_PAYERS + i];
            now.bills.owed[place] -= off;
            now.clients.trusts[client] += pieces[i] - off;
        }
    }

    /** Whether a sheet has so many places from one on; none may begin behind the last place. */
    private boolean hasPlaces(int s, int from, int many) {
        return many >= 0 && from >= 0 && from <= sheetSizes[s] && many <= sheetSizes[s] - from;
    }

    /** All that an image keeps. */
    private static final class House {
        final People people = new People();
        final Clients clients = new Clients();
        final Matters matters = new Matters();
        final Entries entries = new Entries();
        final Doors doors = new Doors();
        final Bills bills = new Bills();
        final Tasks tasks = new Tasks();
        final int[] rules = {120, 8, 30};
        int today;

        void become(House other) {
            people.become(other.people);
            clients.become(other.clients);
            matters.become(other.matters);
            entries.become(other.entries);
            doors.become(other.doors);
            bills.become(other.bills);
            tasks.become(other.tasks);
            takeOver(other.rules, rules);
            today = other.today;
        }
    }

    private static final class People {
        int size;
        final int[] kinds = new int[MOST_PEOPLE];
        final int[] rates = new int[MOST_PEOPLE];
        final int[] spares = new int[MOST_PEOPLE];

        boolean has(int person) {
            return within(person, 0, size - 1);
        }

        boolean isUnder(int person, int kind) {
            int own = kinds[person];
            return kind == CLERK || own == kind || (kind == LAWYER && own == PARTNER);
        }

        void become(People other) {
            size = other.size;
            takeOver(other.kinds, kinds);
            takeOver(other.rates, rates);
            takeOver(other.spares, spares);
        }
    }

    /** Clients with their trust coin and the terms that were read for them. */
    private static final class Clients {
        int size;
        final int[] trusts = new int[MOST_CLIENTS];
        final int[] termCounts = new int[MOST_CLIENTS];
        final int[] termDays = new int[MOST_CLIENTS * MOST_TERMS];
        final int[] partsEnds = new int[MOST_CLIENTS * MOST_TERMS];
        final int[] rateEnds = new int[MOST_CLIENTS * MOST_TERMS];
        final int[] codes = new int[MOST_CLIENTS * MOST_TERMS * TAPE_BYTES];

        boolean has(int client) {
            return within(client, 0, size - 1);
        }

        /** The slot of the terms that count on a day; below 0 if none are in force. */
        int slotOn(int client, int day) {
            int found = -1;
            int first = client * MOST_TERMS;
            for (int i = 0; i < termCounts[client]; i++) {
                int slot = first + i;
                if (termDays[slot] <= day && (found < 0 || termDays[slot] >= termDays[found])) {
                    found = slot;
                }
            }
            return found;
        }

        void become(Clients other) {
            size = other.size;
            takeOver(other.trusts, trusts);
            takeOver(other.termCounts, termCounts);
            takeOver(other.termDays, termDays);
            takeOver(other.partsEnds, partsEnds);
            takeOver(other.rateEnds, rateEnds);
            takeOver(other.codes, codes);
        }
    }

    private static final class Matters {
        int size;
        final int[] kinds = new int[MOST_MATTERS];
        final int[] clients = new int[MOST_MATTERS];
        final int[] fees = new int[MOST_MATTERS];
        final int[] payerCounts = new int[MOST_MATTERS];
        final int[] payerClients = new int[MOST_MATTERS * MOST_PAYERS];
        final int[] payerShares = new int[MOST_MATTERS * MOST_PAYERS];
        final int[] walls = new int[MOST_MATTERS * MOST_PEOPLE];
        final int[] retainers = new int[MOST_MATTERS];
        final int[] stages = new int[MOST_MATTERS];
        final int[] sofars = new int[MOST_MATTERS * STAGES];

        boolean has(int matter) {
            return within(matter, 0, size - 1);
        }

        int begin(int kind, int client, int fee) {
            int number = size;
            kinds[number] = kind;
            clients[number] = client;
            fees[number] = fee;
            putPayer(number, 0, 100 * client + 1);
            payerCounts[number] = 1;
            retainers[number] = 0;
            stages[number] = 0;
            for (int i = 0; i < MOST_PEOPLE; i++) {
                walls[number * MOST_PEOPLE + i] = 0;
            }
            for (int i = 0; i < STAGES; i++) {
                sofars[number * STAGES + i] = 0;
            }
            size = number + 1;
            return number;
        }

        void putPayer(int matter, int payer, int told) {
            payerClients[matter * MOST_PAYERS + payer] = told / 100;
            payerShares[matter * MOST_PAYERS + payer] = told % 100;
        }

        boolean isUnder(int matter, int kind) {
            int own = kinds[matter];
            return kind == 0 || own == kind || (kind == CAPPED && own == TRIAL);
        }

        boolean hasWall(int person, int matter) {
            return walls[matter * MOST_PEOPLE + person] == 1;
        }

        /** Which payer of a matter a client is; below 0 if it is none. */
        int payerPlace(int matter, int client) {
            for (int i = 0; i < payerCounts[matter]; i++) {
                if (payerClients[matter * MOST_PAYERS + i] == client) {
                    return i;
                }
            }
            return -1;
        }

        /** Splits coin among payers by their shares, what is left over 1 each to the first ones. */
        void split(int matter, int coin, int[] into) {
            int payers = payerCounts[matter];
            int first = matter * MOST_PAYERS;
            int all = 0;
            for (int i = 0; i < payers; i++) {
                all += payerShares[first + i];
            }
            int left = coin;
            Arrays.fill(into, 0);
            for (int i = 0; i < payers && i < into.length && all > 0; i++) {
                into[i] = (int) ((long) coin * payerShares[first + i] / all);
                left -= into[i];
            }
            for (int i = 0; i < payers && i < into.length && left > 0; i++) {
                into[i]++;
                left--;
            }
        }

        void become(Matters other) {
            size = other.size;
            takeOver(other.kinds, kinds);
            takeOver(other.clients, clients);
            takeOver(other.fees, fees);
            takeOver(other.payerCounts, payerCounts);
            takeOver(other.payerClients, payerClients);
            takeOver(other.payerShares, payerShares);
            takeOver(other.walls, walls);
            takeOver(other.retainers, retainers);
            takeOver(other.stages, stages);
            takeOver(other.sofars, sofars);
        }
    }

    private static final class Entries {
        int size;
        final int[] persons = new int[MOST_ENTRIES];
        final int[] matters = new int[MOST_ENTRIES];
        final int[] days = new int[MOST_ENTRIES];
        final int[] froms = new int[MOST_ENTRIES];
        final int[] lengths = new int[MOST_ENTRIES];
        final int[] codes = new int[MOST_ENTRIES];
        final int[] toldOn = new int[MOST_ENTRIES];
        final int[] withdrawnOn = new int[MOST_ENTRIES];
        final int[] bills = new int[MOST_ENTRIES];
        final int[] charges = new int[MOST_ENTRIES];
        final int[] cuts = new int[MOST_ENTRIES];

        boolean has(int entry) {
            return within(entry, 0, size - 1);
        }

        boolean isKnown(int entry, int day) {
            return toldOn[entry] <= day && (withdrawnOn[entry] == NONE || withdrawnOn[entry] > day);
        }

        boolean meet(int one, int other) {
            return days[one] == days[other]
                    && froms[one] < froms[other] + lengths[other]
                    && froms[other] < froms[one] + lengths[one];
        }

        /** Counts in a row in how many known entries each part of a day is: all parts together. */
        int layOut(int person, int day, int known, int[] row) {
            int all = 0;
            for (int e = 0; e < size; e++) {
                if (persons[e] == person && days[e] == day && isKnown(e, known)) {
                    int end = froms[e] + lengths[e];
                    for (int i = froms[e]; i < end && i < row.length; i++) {
                        row[i]++;
                    }
                    all += lengths[e];
                }
            }
            return all;
        }

        void become(Entries other) {
            size = other.size;
            takeOver(other.persons, persons);
            takeOver(other.matters, matters);
            takeOver(other.days, days);
            takeOver(other.froms, froms);
            takeOver(other.lengths, lengths);
            takeOver(other.codes, codes);
            takeOver(other.toldOn, toldOn);
            takeOver(other.withdrawnOn, withdrawnOn);
            takeOver(other.bills, bills);
            takeOver(other.charges, charges);
            takeOver(other.cuts, cuts);
        }
    }

    private static final class Doors {
        int size;
        final int[] persons = new int[MOST_DOORS];
        final int[] days = new int[MOST_DOORS];
        final int[] froms = new int[MOST_DOORS];
        final int[] lengths = new int[MOST_DOORS];
        final int[] toldOn = new int[MOST_DOORS];

        /** Counts in a row in how many known doors each part of a day is: how many doors these are. */
        int layOut(int person, int day, int known, int[] row) {
            int many = 0;
            for (int d = 0; d < size; d++) {
                if (persons[d] == person && days[d] == day && toldOn[d] <= known) {
                    int end = froms[d] + lengths[d];
                    for (int i = froms[d]; i < end && i < row.length; i++) {
                        row[i]++;
                    }
                    many++;
                }
            }
            return many;
        }

        void become(Doors other) {
            size = other.size;
            takeOver(other.persons, persons);
            takeOver(other.days, days);
            takeOver(other.froms, froms);
            takeOver(other.lengths, lengths);
            takeOver(other.toldOn, toldOn);
        }
    }

    private static final class Bills {
        int size;
        final int[] matters = new int[MOST_BILLS];
        final int[] days = new int[MOST_BILLS];
        final int[] grosses = new int[MOST_BILLS];
        final int[] nets = new int[MOST_BILLS];
        final int[] retained = new int[MOST_BILLS];
        final int[] entryCounts = new int[MOST_BILLS];
        // by payers of the matter: these stay as they are once it has a bill
        final int[] owed = new int[MOST_BILLS * MOST_PAYERS];

        boolean has(int bill) {
            return within(bill, 0, size - 1);
        }

        boolean isAnyOf(int matter) {
            for (int b = 0; b < size; b++) {
                if (matters[b] == matter) {
                    return true;
                }
            }
            return false;
        }

        int owedByAll(int bill) {
            int sum = 0;
            for (int i = 0; i < MOST_PAYERS; i++) {
                sum += owed[bill * MOST_PAYERS + i];
            }
            return sum;
        }

        void become(Bills other) {
            size = other.size;
            takeOver(other.matters, matters);
            takeOver(other.days, days);
            takeOver(other.grosses, grosses);
            takeOver(other.nets, nets);
            takeOver(other.retained, retained);
            takeOver(other.entryCounts, entryCounts);
            takeOver(other.owed, owed);
        }
    }

    private static final class Tasks {
        int size;
        final int[] matters = new int[MOST_TASKS];
        final int[] parts = new int[MOST_TASKS];
        final int[] leasts = new int[MOST_TASKS];

        void become(Tasks other) {
            size = other.size;
            takeOver(other.matters, matters);
            takeOver(other.parts, parts);
            takeOver(other.leasts, leasts);
        }
    }

    /**
     * The tape, and the reading of terms from it into a row in which what is combined stands
     * ahead of its sign: numbers as they are, names behind FIRST_NAME, signs below 0.
     */
    private static final class Tape {
        static final int FIRST_NAME = 100000;
        private static final int END = 0, NUMBER = 1, WORD = 2, SIGN = 3, MISFIT = 4;
        private static final int MOST_DIGITS = 5, MOST_OPEN = 8;
        private static final String NAMES = "nrkcgwm", PARTS_WORD = "parts", RATE_WORD = "rate";

        final byte[] bytes = new byte[TAPE_BYTES];
        int size;
        final int[] code = new int[TAPE_BYTES];
        int codeSize;
        int partsEnd;
        int leaves;
        private int kind;
        private int start;
        private int end;
        private int openBrackets;
        private int openNots;
        private int fault;

        void putFour(int four) {
            for (int shift = 24; shift >= 0 && size < TAPE_BYTES; shift -= 8) {
                bytes[size] = (byte) (four >> shift);
                size++;
            }
        }

        /** Reads the tape as terms: NONE, or the place of its fault. */
        int readText() {
            codeSize = 0;
            leaves = 0;
            openBrackets = 0;
            openNots = 0;
            fault = NONE;
            kind = SIGN;
            end = 0;
            readNext();
            readKeyword(PARTS_WORD);
            readOr();
            partsEnd = codeSize;
            readKeyword(RATE_WORD);
            readOr();
            if (kind != END) {
                fail();
            }
            return fault;
        }

        /** The first fault alone counts: what is read behind it changes nothing. */
        private void fail() {
            if (fault == NONE) {
                fault = start;
            }
        }

        /** Goes to the next word or sign; one that fits nowhere becomes a MISFIT. */
        private void readNext() {
            int from = end;
            while (from < size && bytes[from] == ' ') {
                from++;
            }
            boolean isGlued = from == end && (kind == NUMBER || kind == WORD);
            start = from;
            if (from >= size) {
                end = from;
                kind = END;
            } else if (isDigit(bytes[from])) {
                end = endOfDigits(from);
                kind = isGlued || end - from > MOST_DIGITS ? MISFIT : NUMBER;
            } else if (isLetter(bytes[from])) {
                end = endOfLetters(from);
                kind = isGlued ? MISFIT : WORD;
            } else {
                end = from + 1;
                kind = SIGN;
            }
        }

        private static boolean isDigit(byte b) {
            return b >= '0' && b <= '9';
        }

        private static boolean isLetter(byte b) {
            return b >= 'a' && b <= 'z';
        }

        private int endOfDigits(int from) {
            int at = from;
            while (at < size && isDigit(bytes[at])) {
                at++;
            }
            return at;
        }

        private int endOfLetters(int from) {
            int at = from;
            while (at < size && isLetter(bytes[at])) {
                at++;
            }
            return at;
        }

        private void readKeyword(String word) {
            if (fault != NONE) {
                return;
            }
            if (!isAtWord(word)) {
                fail();
                return;
            }
            readNext();
        }

        private boolean isAtWord(String word) {
            if (kind != WORD || end - start != word.length()) {
                return false;
            }
            for (int i = 0; i < word.length(); i++) {
                if (bytes[start + i] != word.charAt(i)) {
                    return false;
                }
            }
            return true;
        }

        private boolean isAtSign(char sign) {
            return fault == NONE && kind == SIGN && bytes[start] == sign;
        }

        private void put(int word) {
            if (codeSize < code.length) {
                code[codeSize] = word;
                codeSize++;
            }
        }

        private void readOr() {
            readAnd();
            for (int i = 0; i < TAPE_BYTES && isAtSign('|'); i++) {
                readNext();
                readAnd();
                put(-'|');
            }
        }

        private void readAnd() {
            readTest();
            for (int i = 0; i < TAPE_BYTES && isAtSign('&'); i++) {
                readNext();
                readTest();
                put(-'&');
            }
        }

        private void readTest() {
            readSum();
            if (isAtSign('<') || isAtSign('=') || isAtSign('>')) {
                int sign = bytes[start];
                readNext();
                readSum();
                put(-sign);
            }
        }

        private void readSum() {
            readTerm();
            for (int i = 0; i < TAPE_BYTES && (isAtSign('+') || isAtSign('-')); i++) {
                int sign = bytes[start];
                readNext();
                readTerm();
                put(-sign);
            }
        }

        private void readTerm() {
            readPart();
            for (int i = 0; i < TAPE_BYTES && (isAtSign('*') || isAtSign('/')); i++) {
                int sign = bytes[start];
                readNext();
                readPart();
                put(-sign);
            }
        }

        private void readPart() {
            if (fault != NONE) {
                return;
            }
            if (kind == NUMBER) {
                readNumber();
            } else if (kind == WORD && end - start == 1 && NAMES.indexOf((char) bytes[start]) >= 0) {
                put(FIRST_NAME + bytes[start]);
                leaves++;
                readNext();
            } else if (isAtSign('!') && openNots < MOST_OPEN) {
                openNots++;
                readNext();
                readPart();
                openNots--;
                put(-'!');
            } else if (isAtSign('(') && openBrackets < MOST_OPEN) {
                readBrackets();
            } else {
                fail();
            }
        }

        private void readNumber() {
            int number = 0;
            for (int i = start; i < end && i < size; i++) {
                number = number * 10 + bytes[i] - '0';
            }
            put(number);
            leaves++;
            readNext();
        }

        private void readBrackets() {
            openBrackets++;
            readNext();
            readOr();
            openBrackets--;
            if (isAtSign(')')) {
                readNext();
            } else {
                fail();
            }
        }
    }

    /** What entries count for, by terms and caps, as known on a day. */
    private static final class Worths {
        private final House house;
        private final int[] stack = new int[TAPE_BYTES];
        private final int[] order = new int[MOST_ENTRIES];
        private final int[] likes = new int[MOST_ENTRIES];
        final int[] charges = new int[MOST_ENTRIES];

        Worths(House house) {
            this.house = house;
        }

        int countedOf(int entry, int known) {
            int slot = slotOf(entry);
            if (slot < 0) {
                return house.entries.lengths[entry];
            }
            int first = slot * TAPE_BYTES;
            int gives = workOut(first, first + house.clients.partsEnds[slot], entry, known);
            return Math.max(0, Math.min(MOST_COUNTED, gives));
        }

        int atOf(int entry, int known) {
            int slot = slotOf(entry);
            if (slot < 0) {
                return house.people.rates[house.entries.persons[entry]];
            }
            int first = slot * TAPE_BYTES;
            int gives = workOut(first + house.clients.partsEnds[slot], first + house.clients.rateEnds[slot], entry, known);
            return Math.max(0, Math.min(MOST_AT, gives));
        }

        int worthOf(int entry, int known) {
            return countedOf(entry, known) * atOf(entry, known) / 10;
        }

        private int slotOf(int entry) {
            int client = house.matters.clients[house.entries.matters[entry]];
            return house.clients.slotOn(client, house.entries.days[entry]);
        }

        private int workOut(int from, int to, int entry, int known) {
            int[] codes = house.clients.codes;
            int top = 0;
            for (int i = from; i < to && i < codes.length; i++) {
                int word = codes[i];
                if (word >= 0) {
                    if (top < stack.length) {
                        stack[top] = word < Tape.FIRST_NAME ? word : nameOf(word - Tape.FIRST_NAME, entry, known);
                        top++;
                    }
                } else if (word == -'!') {
                    if (top > 0) {
                        stack[top - 1] = stack[top - 1] == 0 ? 1 : 0;
                    }
                } else if (top > 1) {
                    top--;
                    stack[top - 1] = combine(-word, stack[top - 1], stack[top]);
                }
            }
            return top > 0 ? stack[top - 1] : 0;
        }

        private static int combine(int sign, int a, int b) {
            switch (sign) {
                case '|':
                    return a != 0 || b != 0 ? 1 : 0;
                case '&':
                    return a != 0 && b != 0 ? 1 : 0;
                case '<':
                    return a < b ? 1 : 0;
                case '=':
                    return a == b ? 1 : 0;
                case '>':
                    return a > b ? 1 : 0;
                case '+':
                    return a + b;
                case '-':
                    return a - b;
                case '*':
                    return a * b;
                default:
                    return b == 0 ? 0 : a / b;
            }
        }

        private int nameOf(int letter, int entry, int known) {
            Entries entries = house.entries;
            switch (letter) {
                case 'n':
                    return entries.lengths[entry];
                case 'r':
                    return house.people.rates[entries.persons[entry]];
                case 'k':
                    return house.people.kinds[entries.persons[entry]];
                case 'c':
                    return entries.codes[entry];
                case 'g':
                    return house.matters.kinds[entries.matters[entry]];
                case 'w':
                    return entries.days[entry] % 7;
                default:
                    return othersMet(entry, known);
            }
        }

        /** How many other people have a known entry for the matter that meets an entry. */
        private int othersMet(int entry, int known) {
            Entries entries = house.entries;
            int met = 0;
            for (int e = 0; e < entries.size; e++) {
                boolean isOther = entries.persons[e] != entries.persons[entry] && entries.matters[e] == entries.matters[entry];
                if (isOther && entries.meet(e, entry) && entries.isKnown(e, known)) {
                    met |= 1 << entries.persons[e];
                }
            }
            return Integer.bitCount(met);
        }

        /** Works out what is charged for each known entry of a matter: all of it together. */
        int chargeMatter(int matter, int known) {
            int kind = house.matters.kinds[matter];
            boolean isCapped = house.matters.isUnder(matter, CAPPED);
            int many = putInOrder(matter, known);
            int month = -1;
            int left = 0;
            int all = 0;
            for (int i = 0; i < many; i++) {
                int e = order[i];
                int charge = kind == FIXED ? 0 : worthOf(e, known);
                boolean isAside = kind == TRIAL && house.entries.codes[e] == TRAVEL;
                if (isCapped && !isAside) {
                    if (house.entries.days[e] / DAYS_OF_MONTH != month) {
                        month = house.entries.days[e] / DAYS_OF_MONTH;
                        left = house.matters.fees[matter];
                    }
                    charge = Math.min(charge, left);
                    left -= charge;
                }
                charges[e] = charge;
                all += charge;
            }
            return all;
        }

        /** Puts the known entries of a matter into order, by day, of one day by number: how many. */
        private int putInOrder(int matter, int known) {
            Entries entries = house.entries;
            int many = 0;
            for (int e = 0; e < entries.size; e++) {
                if (entries.matters[e] == matter && entries.isKnown(e, known)) {
                    int at = many;
                    for (; at > 0 && entries.days[order[at - 1]] > entries.days[e]; at--) {
                        order[at] = order[at - 1];
                    }
                    order[at] = e;
                    many++;
                }
            }
            return many;
        }

        /** The middle of what is counted for entries like this one; NONE if there are no like ones. */
        int middleFor(int entry) {
            int many = 0;
            for (int e = 0; e < house.entries.size; e++) {
                int counted = isLike(e, entry) ? countedOf(e, house.today) : 0;
                if (counted > 0) {
                    int at = many;
                    for (; at > 0 && likes[at - 1] > counted; at--) {
                        likes[at] = likes[at - 1];
                    }
                    likes[at] = counted;
                    many++;
                }
            }
            return many == 0 ? NONE : likes[(many - 1) / 2];
        }

        private boolean isLike(int e, int entry) {
            Entries entries = house.entries;
            int kind = house.people.kinds[entries.persons[entry]];
            return entries.bills[e] != NONE && entries.bills[e] != entries.bills[entry]
                    && entries.codes[e] == entries.codes[entry]
                    && house.people.kinds[entries.persons[e]] == kind
                    && entries.cuts[e] == NONE;
        }
    }

    /** Seeks the plan that costs least, people by number, task by task. */
    private static final class Planner {
        private final House house;
        private final boolean[] may = new boolean[MOST_TASKS * MOST_PEOPLE];
        private final int[] left = new int[MOST_PEOPLE];
        private final int[] chosen = new int[MOST_TASKS];
        final int[] best = new int[MOST_TASKS];
        private int bestCost;
        private int triesLeft;

        Planner(House house) {
            this.house = house;
        }

        /** What the plan costs; SPENT; NO. */
        int seek(int tries) {
            takeOver(house.people.spares, left);
            for (int task = 0; task < house.tasks.size; task++) {
                for (int p = 0; p < house.people.size; p++) {
                    may[task * MOST_PEOPLE + p] = house.people.isUnder(p, house.tasks.leasts[task])
                            && !house.matters.hasWall(p, house.tasks.matters[task]);
                }
            }
            bestCost = NO;
            triesLeft = tries;
            return seekFrom(0, 0) ? bestCost : SPENT;
        }

        /** Tries all people for a task and those behind it: false if more tries would be done than may be. */
        private boolean seekFrom(int task, int cost) {
            if (task >= house.tasks.size || task >= MOST_TASKS) {
                takeIfLess(cost);
                return true;
            }
            int parts = house.tasks.parts[task];
            for (int p = 0; p < house.people.size; p++) {
                if (!may[task * MOST_PEOPLE + p] || left[p] < parts) {
                    continue;
                }
                if (triesLeft == 0) {
                    return false;
                }
                triesLeft--;
                left[p] -= parts;
                chosen[task] = p;
                if (!seekFrom(task + 1, cost + costOf(task, p))) {
                    return false;
                }
                left[p] += parts;
            }
            return true;
        }

        /** Of several that cost the same the first one stays. */
        private void takeIfLess(int cost) {
            if (bestCost == NO || cost < bestCost) {
                bestCost = cost;
                takeOver(chosen, best);
            }
        }

        int costOf(int task, int person) {
            return house.tasks.parts[task] * house.people.rates[person] / 10;
        }
    }
}
