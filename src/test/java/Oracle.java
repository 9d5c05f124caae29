import java.util.ArrayList;
import java.util.List;

/** The document once more, for OracleTest: written apart from the program, over plain lists, and thought of anew at each call. */
final class Oracle {
    private final List<int[]> people = new ArrayList<>();
    private final List<List<Integer>> heirs = new ArrayList<>();
    private final List<int[]> persecutions = new ArrayList<>();
    private final List<int[]> things = new ArrayList<>();
    /** Of each thing its stations: party, kind, land, year, rebutted, settled, number. */
    private final List<List<int[]>> stations = new ArrayList<>();
    private final int[] faith = new int[5];
    private int now = 1900;

    private static void index(boolean right) {
        if (!right) {
            throw new IndexOutOfBoundsException();
        }
    }

    private static void argument(boolean right) {
        if (!right) {
            throw new IllegalArgumentException();
        }
    }

    private static void state(boolean right) {
        if (!right) {
            throw new IllegalStateException();
        }
    }

    private static boolean in(int value, int least, int most) {
        return value >= least && value <= most;
    }

    private void isPerson(int person) {
        index(in(person, 0, people.size() - 1));
    }

    private void isThing(int thing) {
        index(in(thing, 0, things.size() - 1));
    }

    private void isStation(int thing, int station) {
        isThing(thing);
        index(in(station, 0, stations.get(thing).size() - 1));
    }

    int person(int group) {
        index(in(group, 0, 3));
        state(people.size() < 12);
        people.add(new int[] {group, 0});
        heirs.add(new ArrayList<>());
        return people.size() - 1;
    }

    void die(int person) {
        isPerson(person);
        state(people.get(person)[1] == 0);
        people.get(person)[1] = 1;
    }

    int heir(int person, int heir) {
        isPerson(person);
        isPerson(heir);
        argument(person != heir);
        state(!heirs.get(person).contains(heir));
        heirs.get(person).add(heir);
        return heirs.get(person).size();
    }

    int persecution(int group, int land, int from, int to) {
        index(in(group, 0, 3) && in(land, 0, 4));
        argument(in(from, 1900, 2100) && in(to, from, 2100));
        state(persecutions.size() < 20);
        persecutions.add(new int[] {group, land, from, to});
        return persecutions.size();
    }

    int faith(int land, int years) {
        index(in(land, 0, 4));
        argument(in(years, 0, 60));
        int before = faith[land];
        faith[land] = years;
        return before;
    }

    int now(int year) {
        argument(in(year, now, 2100));
        int before = now;
        now = year;
        return before;
    }

    int thing(int marks, int size) {
        argument(in(marks, 0, 65535) && in(size, 0, 1000));
        state(things.size() < 10);
        things.add(new int[] {marks, size});
        stations.add(new ArrayList<>());
        return things.size() - 1;
    }

    boolean mark(int thing, int mark, boolean is) {
        isThing(thing);
        argument(in(mark, 0, 15));
        int[] marked = things.get(thing);
        int before = marked[0] >> mark & 1;
        marked[0] += ((is ? 1 : 0) - before) << mark;
        return before == 1;
    }

    int station(int thing, int party, int kind, int land, int year) {
        isThing(thing);
        isPerson(party);
        index(in(land, 0, 4));
        argument(in(kind, 0, 5) && in(year, 1900, now));
        state(stations.get(thing).size() < 8);
        int number = stations.get(thing).size();
        stations.get(thing).add(new int[] {party, kind, land, year, 0, 0, number});
        return number;
    }

    boolean rebut(int thing, int station, boolean is) {
        isStation(thing, station);
        argument(stations.get(thing).get(station)[1] == 0);
        return exchange(thing, station, 4, is);
    }

    boolean settle(int thing, int station, boolean is) {
        isStation(thing, station);
        return exchange(thing, station, 5, is);
    }

    private boolean exchange(int thing, int station, int what, boolean is) {
        int before = stations.get(thing).get(station)[what];
        stations.get(thing).get(station)[what] = is ? 1 : 0;
        return before == 1;
    }

    boolean isPersecuted(int person, int land, int year) {
        isPerson(person);
        index(in(land, 0, 4));
        argument(in(year, 1900, 2100));
        return persecutions.stream().anyMatch(p -> p[0] == people.get(person)[0] && p[1] == land && p[2] <= year
            && year <= p[3]);
    }

    int heirOf(int person) {
        isPerson(person);
        for (int first : heirs.get(person)) {
            if (living(first)) {
                return first;
            }
            for (int second : heirs.get(first)) {
                if (living(second)) {
                    return second;
                }
                for (int third : heirs.get(second)) {
                    if (living(third)) {
                        return third;
                    }
                }
            }
        }
        return -1;
    }

    private boolean living(int person) {
        return people.get(person)[1] == 0;
    }

    int likeness(int thing, int other) {
        isThing(thing);
        isThing(other);
        int[] one = things.get(thing);
        int[] two = things.get(other);
        int sum = one[1] > two[1] ? two[1] - one[1] : one[1] - two[1];
        for (int mark = 0; mark < 16; mark++) {
            int both = (one[0] >> mark & 1) + (two[0] >> mark & 1);
            sum += both == 2 ? 10 : both == 1 ? -5 : 0;
        }
        return sum;
    }

    int likest(int thing) {
        isThing(thing);
        int best = -1;
        for (int other = things.size() - 1; other >= 0; other--) {
            if (other != thing && (best < 0 || likeness(thing, other) >= likeness(thing, best))) {
                best = other;
            }
        }
        return best;
    }

    private List<int[]> ordered(int thing) {
        List<int[]> order = new ArrayList<>(stations.get(thing));
        order.sort((a, b) -> a[3] != b[3] ? a[3] - b[3] : a[6] - b[6]);
        return order;
    }

    int stationAt(int thing, int place) {
        isThing(thing);
        index(place >= 0);
        List<int[]> order = ordered(thing);
        return place < order.size() ? order.get(place)[6] : -1;
    }

    boolean isLoss(int thing, int station) {
        isStation(thing, station);
        List<int[]> order = ordered(thing);
        int place = 0;
        while (order.get(place)[6] != station) {
            place++;
        }
        return place > 0 && lossAt(order, place);
    }

    private boolean lossAt(List<int[]> order, int place) {
        int[] s = order.get(place);
        return s[1] >= 3 || s[1] == 0 && s[4] == 0 && isPersecuted(order.get(place - 1)[0], s[2], s[3]);
    }

    int holder(int thing) {
        isThing(thing);
        List<int[]> order = ordered(thing);
        return order.isEmpty() ? -1 : order.get(order.size() - 1)[0];
    }

    int owner(int thing) {
        isThing(thing);
        List<int[]> order = ordered(thing);
        if (order.isEmpty()) {
            return -1;
        }
        int title = order.get(0)[0];
        for (int place = 1; place < order.size(); place++) {
            int[] s = order.get(place);
            int until = place + 1 < order.size() ? order.get(place + 1)[3] : now;
            boolean kept = s[1] == 0 && faith[s[2]] != 0 && until >= s[3] + faith[s[2]];
            boolean loss = lossAt(order, place);
            if (s[5] == 1 || !loss && (order.get(place - 1)[0] == title || kept)) {
                title = s[0];
            }
        }
        return living(title) ? title : heirOf(title);
    }

    int ownerAnew(int thing) {
        return owner(thing);
    }

    int asks(int person) {
        isPerson(person);
        int count = 0;
        for (int thing = 0; thing < things.size(); thing++) {
            count += owner(thing) == person && holder(thing) != person ? 1 : 0;
        }
        return count;
    }
}
