/**
 * Things taken in dark years and those who ask for them: who holds and who owns each thing, by its
 * stations, the losses among them, settlements, good faith and heirs.
 */
public final class Restitutory {
    public static final int NONE = -1;
    public static final int BOUGHT = 0, GIVEN = 1, INHERITED = 2, SEIZED = 3, FORCED = 4, LEFT = 5;

    private static final int GROUPS = 4;
    private static final int LANDS = 5;
    private static final int FIRST_YEAR = 1900;
    private static final int LAST_YEAR = 2100;
    private static final int MOST_PEOPLE = 12;
    private static final int MOST_PERSECUTIONS = 20;
    private static final int MOST_FAITH_YEARS = 60;
    private static final int GENERATIONS = 3;
    private static final int MOST_THINGS = 10;
    private static final int MARKS = 16;
    private static final int ALL_MARKS = 65535;
    private static final int MOST_SIZE = 1000;
    private static final int MOST_STATIONS = 8;

    private final Person[] people = new Person[MOST_PEOPLE];
    private int peopleCount;
    private final Persecution[] persecutions = new Persecution[MOST_PERSECUTIONS];
    private int persecutionCount;
    private final int[] faithYears = new int[LANDS];
    private int currentYear = FIRST_YEAR;
    private final Thing[] things = new Thing[MOST_THINGS];
    private int thingCount;

    public Restitutory() {
    }

    // ---- people, laws

    public int person(int group) throws IndexOutOfBoundsException, IllegalStateException {
        requireGroup(group);
        if (peopleCount >= MOST_PEOPLE) {
            throw new IllegalStateException("there are 12 people");
        }
        int number = peopleCount;
        people[number] = new Person(number, group);
        peopleCount = number + 1;
        return number;
    }

    public void die(int person) throws IndexOutOfBoundsException, IllegalStateException {
        Person dying = personNumbered(person);
        if (dying.dead) {
            throw new IllegalStateException("the person is dead");
        }
        dying.dead = true;
    }

    public int heir(int person, int heir)
            throws IndexOutOfBoundsException, IllegalArgumentException, IllegalStateException {
        Person leaving = personNumbered(person);
        Person inheriting = personNumbered(heir);
        if (leaving == inheriting) {
            throw new IllegalArgumentException("nobody is an heir of oneself");
        }
        // Everybody else fits into the row of heirs, so that a full one tells them all already.
        if (leaving.hasToldHeir(inheriting) || leaving.heirCount >= leaving.heirs.length) {
            throw new IllegalStateException("the heir was told");
        }
        leaving.heirs[leaving.heirCount] = inheriting;
        leaving.heirCount++;
        return leaving.heirCount;
    }

    public int persecution(int group, int land, int from, int to)
            throws IndexOutOfBoundsException, IllegalArgumentException, IllegalStateException {
        requireGroup(group);
        requireLand(land);
        requireRange(from, FIRST_YEAR, LAST_YEAR);
        requireRange(to, from, LAST_YEAR);
        if (persecutionCount >= MOST_PERSECUTIONS) {
            throw new IllegalStateException("there are 20 persecutions");
        }
        persecutions[persecutionCount] = new Persecution(group, land, from, to);
        persecutionCount++;
        return persecutionCount;
    }

    public int faith(int land, int years) throws IndexOutOfBoundsException, IllegalArgumentException {
        requireLand(land);
        requireRange(years, 0, MOST_FAITH_YEARS);
        int before = faithYears[land];
        faithYears[land] = years;
        return before;
    }

    public int now(int year) throws IllegalArgumentException {
        requireRange(year, currentYear, LAST_YEAR);
        int before = currentYear;
        currentYear = year;
        return before;
    }

    // ---- things, stations

    public int thing(int marks, int size) throws IllegalArgumentException, IllegalStateException {
        requireRange(marks, 0, ALL_MARKS);
        requireRange(size, 0, MOST_SIZE);
        if (thingCount >= MOST_THINGS) {
            throw new IllegalStateException("there are 10 things");
        }
        int number = thingCount;
        things[number] = new Thing(marks, size);
        thingCount = number + 1;
        return number;
    }

    public boolean mark(int thing, int mark, boolean is)
            throws IndexOutOfBoundsException, IllegalArgumentException {
        Thing marked = thingNumbered(thing);
        requireRange(mark, 0, MARKS - 1);
        int bit = 1 << mark;
        boolean before = (marked.marks & bit) != 0;
        marked.marks = is ? marked.marks | bit : marked.marks & ~bit;
        return before;
    }

    public int station(int thing, int party, int kind, int land, int year)
            throws IndexOutOfBoundsException, IllegalArgumentException, IllegalStateException {
        Thing passing = thingNumbered(thing);
        Person receiving = personNumbered(party);
        requireLand(land);
        requireRange(kind, BOUGHT, LEFT);
        requireRange(year, FIRST_YEAR, currentYear);
        int number = passing.stationCount;
        if (number >= MOST_STATIONS) {
            throw new IllegalStateException("the thing has 8 stations");
        }
        Station told = new Station(number, receiving, kind, land, year);
        passing.stations[number] = told;
        passing.stationCount = number + 1;
        passing.putInOrder(told);
        return number;
    }

    public boolean rebut(int thing, int station, boolean is)
            throws IndexOutOfBoundsException, IllegalArgumentException {
        Station presumed = stationNumbered(thing, station);
        if (presumed.kind != BOUGHT) {
            throw new IllegalArgumentException("the station is not BOUGHT");
        }
        boolean before = presumed.rebutted;
        presumed.rebutted = is;
        return before;
    }

    public boolean settle(int thing, int station, boolean is) throws IndexOutOfBoundsException {
        Station agreed = stationNumbered(thing, station);
        boolean before = agreed.settled;
        agreed.settled = is;
        return before;
    }

    // ---- questions

    public boolean isPersecuted(int person, int land, int year)
            throws IndexOutOfBoundsException, IllegalArgumentException {
        Person asked = personNumbered(person);
        requireLand(land);
        requireRange(year, FIRST_YEAR, LAST_YEAR);
        return isDarkFor(asked, land, year);
    }

    public int heirOf(int person) throws IndexOutOfBoundsException {
        return numberOf(livingHeir(personNumbered(person), GENERATIONS));
    }

    public int likeness(int thing, int other) throws IndexOutOfBoundsException {
        return thingNumbered(thing).likenessTo(thingNumbered(other));
    }

    public int likest(int thing) throws IndexOutOfBoundsException {
        Thing one = thingNumbered(thing);
        int best = NONE;
        int bestLikeness = 0;
        for (int i = 0; i < MOST_THINGS; i++) {
            Thing other = things[i];
            if (other == null || other == one) {
                continue;
            }
            int found = one.likenessTo(other);
            if (best == NONE || found > bestLikeness) {
                best = i;
                bestLikeness = found;
            }
        }
        return best;
    }

    public int stationAt(int thing, int place) throws IndexOutOfBoundsException {
        Thing asked = thingNumbered(thing);
        if (place < 0) {
            throw new IndexOutOfBoundsException("there is no place below 0");
        }
        Station found = asked.first;
        for (int i = 0; i < place && found != null; i++) {
            found = found.next;
        }
        return found == null ? NONE : found.number;
    }

    public boolean isLoss(int thing, int station) throws IndexOutOfBoundsException {
        return takesAway(stationNumbered(thing, station));
    }

    public int holder(int thing) throws IndexOutOfBoundsException {
        return numberOf(thingNumbered(thing).lastParty());
    }

    public int owner(int thing) throws IndexOutOfBoundsException {
        return numberOf(livingFor(titleFromFirst(thingNumbered(thing)), GENERATIONS));
    }

    public int ownerAnew(int thing) throws IndexOutOfBoundsException {
        return numberOf(livingFor(titleFromLast(thingNumbered(thing)), GENERATIONS));
    }

    public int asks(int person) throws IndexOutOfBoundsException {
        Person asking = personNumbered(person);
        int count = 0;
        for (Thing thing : things) {
            if (thing != null && thing.lastParty() != asking
                    && livingFor(titleFromFirst(thing), GENERATIONS) == asking) {
                count++;
            }
        }
        return count;
    }

    // ---- what the calls have in common: arguments

    private static void requireGroup(int group) {
        if (group < 0 || group >= GROUPS) {
            throw new IndexOutOfBoundsException("there is no such group");
        }
    }

    private static void requireLand(int land) {
        if (land < 0 || land >= LANDS) {
            throw new IndexOutOfBoundsException("there is no such land");
        }
    }

    private static void requireRange(int value, int least, int most) {
        if (value < least || value > most) {
            throw new IllegalArgumentException("an argument is out of its range");
        }
    }

    private Person personNumbered(int person) {
        Person found = person >= 0 && person < MOST_PEOPLE ? people[person] : null;
        if (found == null) {
            throw new IndexOutOfBoundsException("there is no such person");
        }
        return found;
    }

    private Thing thingNumbered(int thing) {
        Thing found = thing >= 0 && thing < MOST_THINGS ? things[thing] : null;
        if (found == null) {
            throw new IndexOutOfBoundsException("there is no such thing");
        }
        return found;
    }

    private Station stationNumbered(int thing, int station) {
        Thing passing = thingNumbered(thing);
        Station found = station >= 0 && station < MOST_STATIONS ? passing.stations[station] : null;
        if (found == null) {
            throw new IndexOutOfBoundsException("there is no such station");
        }
        return found;
    }

    private static int numberOf(Person person) {
        return person == null ? NONE : person.number;
    }

    // ---- what the calls have in common: laws, heirs, titles

    private boolean isDarkFor(Person person, int land, int year) {
        for (Persecution told : persecutions) {
            if (told != null && told.strikes(person.group, land, year)) {
                return true;
            }
        }
        return false;
    }

    // Heirs may be heirs of one another in a circle: only the generations left end the search.
    private static Person livingHeir(Person person, int generations) {
        if (generations <= 0) {
            return null;
        }
        for (Person heir : person.heirs) {
            Person living = livingFor(heir, generations - 1);
            if (living != null) {
                return living;
            }
        }
        return null;
    }

    private static Person livingFor(Person person, int generations) {
        if (person == null || !person.dead) {
            return person;
        }
        return livingHeir(person, generations);
    }

    private boolean takesAway(Station station) {
        Station ahead = station.ahead;
        if (ahead == null) {
            return false;
        }
        if (station.kind == BOUGHT) {
            return !station.rebutted && isDarkFor(ahead.party, station.land, station.year);
        }
        return station.kind == SEIZED || station.kind == FORCED || station.kind == LEFT;
    }

    private boolean isKeptInGoodFaith(Station station) {
        int needed = faithYears[station.land];
        int until = station.next == null ? currentYear : station.next.year;
        return station.kind == BOUGHT && needed > 0 && until - station.year >= needed;
    }

    private Person titleFromFirst(Thing thing) {
        if (thing.first == null) {
            return null;
        }
        Person titled = thing.first.party;
        for (Station station = thing.first.next; station != null; station = station.next) {
            if (bringsTitle(station, titled)) {
                titled = station.party;
            }
        }
        return titled;
    }

    private boolean bringsTitle(Station station, Person titled) {
        if (station.settled) {
            return true;
        }
        if (takesAway(station)) {
            return false;
        }
        boolean fromTitled = station.ahead != null && station.ahead.party == titled;
        return fromTitled || isKeptInGoodFaith(station);
    }

    // Going back, it is not known yet who has the title; so each person is told who ends with it if
    // that person has it here, until a station is met that brings it to its party in any case.
    private Person titleFromLast(Thing thing) {
        for (Station station = thing.last; station != null; station = station.ahead) {
            station.party.titleEndsWith = station.party;
        }
        for (Station station = thing.last; station != null; station = station.ahead) {
            Station ahead = station.ahead;
            if (ahead == null || station.settled) {
                return station.party.titleEndsWith;
            }
            if (takesAway(station)) {
                continue;
            }
            if (isKeptInGoodFaith(station)) {
                return station.party.titleEndsWith;
            }
            ahead.party.titleEndsWith = station.party.titleEndsWith;
        }
        return null;
    }

    private static final class Person {
        final int number;
        final int group;
        boolean dead;
        final Person[] heirs = new Person[MOST_PEOPLE - 1];
        int heirCount;
        Person titleEndsWith;

        Person(int number, int group) {
            this.number = number;
            this.group = group;
        }

        boolean hasToldHeir(Person person) {
            for (Person heir : heirs) {
                if (heir == person) {
                    return true;
                }
            }
            return false;
        }
    }

    private static final class Persecution {
        final int group;
        final int land;
        final int from;
        final int to;

        Persecution(int group, int land, int from, int to) {
            this.group = group;
            this.land = land;
            this.from = from;
            this.to = to;
        }

        boolean strikes(int group, int land, int year) {
            return this.group == group && this.land == land && from <= year && year <= to;
        }
    }

    private static final class Thing {
        int marks;
        final int size;
        final Station[] stations = new Station[MOST_STATIONS];
        int stationCount;
        Station first;
        Station last;

        Thing(int marks, int size) {
            this.marks = marks;
            this.size = size;
        }

        int likenessTo(Thing other) {
            int both = Integer.bitCount(marks & other.marks);
            int justOne = Integer.bitCount(marks ^ other.marks);
            return 10 * both - 5 * justOne - Math.abs(size - other.size);
        }

        Person lastParty() {
            return last == null ? null : last.party;
        }

        // From the end, as one told later stands behind those of its own year.
        void putInOrder(Station station) {
            Station before = last;
            while (before != null && before.year > station.year) {
                before = before.ahead;
            }
            Station after = before == null ? first : before.next;
            station.ahead = before;
            station.next = after;
            if (before == null) {
                first = station;
            } else {
                before.next = station;
            }
            if (after == null) {
                last = station;
            } else {
                after.ahead = station;
            }
        }
    }

    private static final class Station {
        final int number;
        final Person party;
        final int kind;
        final int land;
        final int year;
        boolean rebutted;
        boolean settled;
        Station ahead;
        Station next;

        Station(int number, Person party, int kind, int land, int year) {
            this.number = number;
            this.party = party;
            this.kind = kind;
            this.land = land;
            this.year = year;
        }
    }
}
