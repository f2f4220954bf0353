import java.util.ArrayList;
import java.util.List;
import java.util.Optional;
import java.util.TreeSet;

/** All that can be seen of a house, asked of new houses with the same calls behind them. */
final class View {
    private View() { }

    /** The first answer in which two houses differ, each told by the calls that made it. */
    static Optional<String> unlike(List<Edge.Call> one, List<Edge.Call> other) {
        for (Group group : groups(made(one))) {
            int room = Edge.MOST_CALLS - Math.max(one.size(), other.size()) - group.ahead.size();
            if (room < 1) return Optional.of("no room to see it, the run is too long");
            for (int from = 0; from < group.asked.size(); from += room) {
                HourHouse x = made(one), y = made(other);
                for (Edge.Call call : group.ahead) {
                    call.on(x);
                    call.on(y);
                }
                int end = Math.min(group.asked.size(), from + room);
                for (Edge.Call call : group.asked.subList(from, end)) {
                    int was = call.on(x), is = call.on(y);
                    if (was != is) return Optional.of(group.ahead(call) + " answers " + is + " and not " + was);
                }
            }
        }
        return Optional.empty();
    }

    private static HourHouse made(List<Edge.Call> calls) {
        HourHouse house = new HourHouse();
        for (Edge.Call call : calls) call.on(house);
        return house;
    }

    /** Calls that are asked one behind the other, with calls that must be ahead of them. */
    private static final class Group {
        final List<Edge.Call> ahead = new ArrayList<>();
        final List<Edge.Call> asked = new ArrayList<>();

        Group(String... calls) {
            for (String call : calls) ahead.add(Edge.Call.of(call));
        }

        void ask(String call, int... numbers) {
            StringBuilder text = new StringBuilder(call).append('(');
            for (int i = 0; i < numbers.length; i++) text.append(i == 0 ? "" : ", ").append(numbers[i]);
            asked.add(Edge.Call.of(text.append(')').toString()));
        }

        String ahead(Edge.Call call) {
            StringBuilder text = new StringBuilder();
            for (Edge.Call c : ahead) text.append(c.text()).append(", then ");
            return text.append(call.text()).toString();
        }
    }

    private static List<Group> groups(HourHouse house) {
        List<Group> groups = new ArrayList<>();
        groups.add(reading(house, new Group()));
        groups.add(becoming(house, new Group()));
        groups.add(waiting(new Group()));
        groups.add(goingOn(house, new Group()));
        if (house.back() >= 0) {
            groups.add(reading(house, new Group("back()")));
            groups.add(becoming(house, new Group("back()")));
            groups.add(goingOn(house, new Group("back()")));
        }
        return groups;
    }

    /** Calls that change nothing. */
    private static Group reading(HourHouse house, Group g) {
        int people = house.count(0), clients = house.count(1), matters = house.count(2);
        int entries = house.count(3), bills = house.count(6), tasks = house.count(7), today = house.count(10);
        for (int what = 0; what <= 12; what++) g.ask("count", what);
        TreeSet<Integer> days = new TreeSet<>(List.of(0, today));
        for (int e = 0; e <= entries; e++) {
            for (int what = 0; what <= 10; what++) g.ask("told", e, what);
            for (int what = 0; what <= 3; what++) g.ask("worth", e, today, what);
            g.ask("middle", e);
            if (e < entries && days.size() < 6) days.add(house.told(e, 2));
        }
        for (int p = 0; p <= people; p++) {
            for (int kind = 0; kind <= 3; kind++) g.ask("is", p, kind);
            for (int day : days) {
                for (int what = 0; what <= 3; what++) g.ask("written", p, day, today, what);
            }
        }
        for (int m = 0; m <= matters; m++) {
            for (int kind = 0; kind <= 3; kind++) g.ask("isOf", m, kind);
            g.ask("foretold", m, 0);
            g.ask("foretold", m, 1);
        }
        for (int b = 0; b <= bills; b++) {
            for (int what = 0; what <= 6; what++) g.ask("about", b, what);
            for (int c = 0; c < clients; c++) {
                g.ask("owes", b, c, 0);
                g.ask("owes", b, c, 1);
            }
        }
        g.ask("plan", 30000);
        for (int t = 0; t < tasks; t++) g.ask("planned", 30000, t);
        return g;
    }

    /** Calls that answer what was. */
    private static Group becoming(HourHouse house, Group g) {
        int people = house.count(0), clients = house.count(1), matters = house.count(2);
        for (int which = 0; which <= 2; which++) g.ask("rule", which, 0);
        for (int p = 0; p < people; p++) {
            g.ask("free", p, 0);
            for (int m = 0; m < matters; m++) g.ask("wall", p, m, 0);
        }
        for (int c = 0; c < clients; c++) g.ask("trust", c, 0);
        for (int m = 0; m < matters; m++) g.ask("retain", m, 1);
        for (int place = 0; place <= 20; place++) {
            g.ask("mark", 0, place, 0);
            g.ask("mark", 1, place, 0);
        }
        g.ask("clear");
        return g;
    }

    private static Group waiting(Group g) {
        g.ask("check");
        g.ask("terms", 0, 0);
        g.ask("worth", 0, 0, 2);
        return g;
    }

    /** Calls by which stages, payers and numbers that come next are seen. */
    private static Group goingOn(HourHouse house, Group g) {
        int clients = house.count(1), matters = house.count(2), bills = house.count(6), today = house.count(10);
        g.ask("person", 0, 1);
        g.ask("matter", 0, 0, 0);
        g.ask("client");
        g.ask("task", 0, 1, 0);
        for (int m = 0; m < matters; m++) {
            g.ask("bill", m, today, 0);
            for (int c = 0; c < clients; c++) {
                g.ask("owes", bills + m, c, 0);
                g.ask("pay", bills + m, c, 1);
            }
            g.ask("stage", m, 1);
            g.ask("stage", m, 5);
        }
        for (int m = 0; m < matters; m++) g.ask("foretold", m, 1);
        g.ask("days", 1);
        return g;
    }
}
