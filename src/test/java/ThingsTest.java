/** Promises 8 to 12 and 15 to 17 with their terms: a method for each promise, its sentences and their edges. */
public final class ThingsTest {
    private static final int BOUGHT = 0, GIVEN = 1, SEIZED = 3, LEFT = 5;

    public static void main(String[] args) {
        termThings();
        termLikeness();
        termStations();
        termOrder();
        termKinds();
        promise8();
        promise9();
        promise10();
        promise10Refused();
        promise10Full();
        promise11();
        promise11OutOfOrder();
        promise11Refused();
        promise12();
        promise12OutOfOrder();
        promise12Refused();
        promise15();
        promise16();
        promise16Alike();
        promise17();
        promise17Orders();
        promise17Refused();
        Check.end();
    }

    private static Restitutory things(int count) {
        Restitutory x = new Restitutory();
        for (int i = 0; i < count; i++) {
            x.thing(0, 0);
        }
        return x;
    }

    /** Two people, two things and the year 2000; the stations are of thing 0, GIVEN to person 0 in 1950. */
    private static Restitutory stations(int count) {
        Restitutory x = things(2);
        x.person(0);
        x.person(1);
        x.now(2000);
        for (int i = 0; i < count; i++) {
            x.station(0, 0, GIVEN, 0, 1950);
        }
        return x;
    }

    /** Stations of the given years, of thing 0, told in this order. */
    private static Restitutory told(int... years) {
        Restitutory x = stations(0);
        for (int year : years) {
            x.station(0, 0, GIVEN, 0, year);
        }
        return x;
    }

    private static void order(String what, Restitutory x, int... want) {
        for (int place = 0; place < want.length; place++) {
            Check.due(what + ", place " + place, x.stationAt(0, place), want[place]);
        }
        Check.due(what + ", the place beyond", x.stationAt(0, want.length), -1);
    }

    private static void termThings() {
        Check.term("Things are numbered from 0, at most 10, each with marks, told by bits, 0 to 65535, and a size, 0 to"
            + " 1000.");
        Restitutory x = new Restitutory();
        for (int i = 0; i < 10; i++) {
            int number = i;
            Check.dueThrow("thing " + i + " ahead of being told", Check.INDEX, () -> x.holder(number));
            Check.due("thing " + i, x.thing(i * 7281, i * 111), i);
        }
        Check.dueThrow("an 11th one", Check.STATE, () -> x.thing(0, 0));
        Check.dueThrow("which is not there", Check.INDEX, () -> x.holder(10));
        for (int i = 0; i < 10; i++) {
            Check.due("the marks of thing " + i, x.likeness(i, i), 10 * Integer.bitCount(i * 7281));
            Check.due("the size of thing " + i, x.likeness(0, i), -5 * Integer.bitCount(i * 7281) - i * 111);
        }
        for (int bit = 0; bit < 16; bit++) {
            Restitutory one = new Restitutory();
            one.thing(1 << bit, 0);
            for (int mark = 0; mark < 16; mark++) {
                Check.due("bit " + bit + ", mark " + mark, one.mark(0, mark, true), mark == bit);
            }
        }
    }

    private static void termLikeness() {
        Check.term("The likeness of two things is 10 times how many marks they have both, less 5 times how many just one"
            + " has, less by how much their sizes differ.");
        for (int both = 0; both <= 16; both++) {
            for (int just = 0; both + just <= 16; just++) {
                int shared = (1 << both) - 1;
                int more = ((1 << just) - 1) << both;
                int due = 10 * both - 5 * just;
                Check.due(both + " both, " + just + " the first", likeness(shared | more, 0, shared, 0), due);
                Check.due(both + " both, " + just + " the second", likeness(shared, 0, shared | more, 0), due);
                int half = more & 0x5555;
                Check.due(both + " both, " + just + " either", likeness(shared | half, 0, shared | more & ~half, 0), due);
            }
        }
        int[] sizes = {0, 1, 2, 499, 500, 999, 1000};
        for (int one : sizes) {
            for (int other : sizes) {
                int due = one > other ? other - one : one - other;
                Check.due("of the sizes " + one + " and " + other, likeness(0, one, 0, other), due);
                Check.due("and one mark both", likeness(1, one, 1, other), due + 10);
                Check.due("and one mark one", likeness(1, one, 0, other), due - 5);
            }
        }
        Check.due("the least", likeness(0, 0, 65535, 1000), -1080);
        Check.due("the least the other way round", likeness(65535, 1000, 0, 0), -1080);
        Check.due("the most", likeness(65535, 1000, 65535, 1000), 160);
        Check.due("nothing", likeness(0, 0, 0, 0), 0);
    }

    private static int likeness(int marks, int size, int otherMarks, int otherSize) {
        Restitutory x = new Restitutory();
        x.thing(marks, size);
        x.thing(otherMarks, otherSize);
        return x.likeness(0, 1);
    }

    private static void termStations() {
        Check.term("A station of a thing is a party, a person, by a kind, in a land and a year; stations of a thing are"
            + " numbered as they are told, from 0, at most 8.");
        Restitutory x = things(10);
        for (int i = 0; i < 12; i++) {
            x.person(0);
        }
        x.now(2000);
        for (int i = 0; i < 8; i++) {
            for (int thing = 0; thing < 10; thing++) {
                Check.due("station " + i + " of " + thing, x.station(thing, (i + thing) % 12, i % 6, i % 5, 2000 - i), i);
            }
        }
        for (int i = 0; i < 10; i++) {
            int thing = i;
            Check.dueThrow("a 9th of " + i, Check.STATE, () -> x.station(thing, 0, 0, 0, 1900));
            Check.due("the last of " + i, x.holder(i), i);
            for (int place = 0; place < 8; place++) {
                Check.due("of thing " + i + ", place " + place, x.stationAt(i, place), 7 - place);
            }
        }
    }

    private static void termOrder() {
        Check.term("They stand in the order of their years, those of one year as they were told.");
        order("one", told(1950), 0);
        order("a later one", told(1950, 1951), 0, 1);
        order("an earlier one", told(1951, 1950), 1, 0);
        order("two of one year", told(1950, 1950), 0, 1);
        order("eight of one year", told(1950, 1950, 1950, 1950, 1950, 1950, 1950, 1950), 0, 1, 2, 3, 4, 5, 6, 7);
        order("each earlier", told(2000, 1999, 1998, 1997, 1996, 1995, 1901, 1900), 7, 6, 5, 4, 3, 2, 1, 0);
        order("each later", told(1900, 1901, 1902, 1903, 1997, 1998, 1999, 2000), 0, 1, 2, 3, 4, 5, 6, 7);
        order("between", told(1900, 2000, 1950, 1925, 1975), 0, 3, 2, 4, 1);
        order("the last year once more", told(1900, 2000, 1950, 2000, 1950, 1900), 0, 5, 2, 4, 1, 3);
        order("by turns", told(1951, 1950, 1951, 1950, 1951, 1950, 1951, 1950), 1, 3, 5, 7, 0, 2, 4, 6);
        Check.term("The first one in that order is where the thing comes from, whatever its kind; at each other one the"
            + " thing passes from the party of the one ahead to its own.");
        for (int kind = BOUGHT; kind <= LEFT; kind++) {
            Restitutory x = stations(0);
            x.persecution(0, 0, 1900, 2100);
            x.persecution(1, 0, 1900, 2100);
            x.station(0, 1, kind, 0, 1950);
            Check.due("the only one, kind " + kind + ", is no loss", x.isLoss(0, 0), false);
            Check.due("the title begins there, kind " + kind, x.owner(0), 1);
            x.station(0, 0, kind, 0, 1949);
            Check.due("an earlier one, kind " + kind + ", is no loss", x.isLoss(0, 1), false);
            Check.due("kind " + kind + " is not the first any more", x.isLoss(0, 0), kind == BOUGHT || kind >= SEIZED);
            Check.due("kind " + kind + " passes the thing", x.holder(0), 1);
        }
    }

    private static void termKinds() {
        Check.term("The kinds are BOUGHT, GIVEN, INHERITED, SEIZED, FORCED and LEFT.");
        int[] kinds = {Restitutory.BOUGHT, Restitutory.GIVEN, Restitutory.INHERITED, Restitutory.SEIZED,
            Restitutory.FORCED, Restitutory.LEFT};
        for (int i = 0; i < 6; i++) {
            Check.due("kind " + i, kinds[i], i);
            Restitutory x = stations(1);
            Check.due("a station of it", x.station(0, 1, kinds[i], 0, 2000), 1);
            Check.due("is a loss", x.isLoss(0, 1), i >= 3);
        }
    }

    private static void promise8() {
        Check.sentence(8, "Tells a thing.");
        Check.dueThrow("thing 2 is not there", Check.INDEX, () -> things(2).likest(2));
        Check.dueNoThrow("thing 1 is", () -> things(2).likest(1));
        Check.sentence(8, "- `marks`: 0 to 65535");
        for (int marks = 0; marks <= 65535; marks += marks % 251 == 0 || marks > 65270 ? 1 : 250) {
            Restitutory x = new Restitutory();
            Check.due("marks " + marks, x.thing(marks, 0), 0);
            Check.due("how many", x.likeness(0, 0), 10 * Integer.bitCount(marks));
        }
        for (int marks : Edges.outside(0, 65535)) {
            Check.dueThrow("marks " + marks, Check.ARGUMENT, () -> things(0).thing(marks, 0));
            Check.dueThrow("marks " + marks + ", 10 things", Check.ARGUMENT, () -> things(10).thing(marks, 0));
        }
        Check.sentence(8, "- `size`: 0 to 1000");
        for (int size : Edges.inside(0, 1000)) {
            Restitutory x = things(1);
            Check.due("size " + size, x.thing(0, size), 1);
            Check.due("size " + size + " against 0", x.likeness(0, 1), -size);
        }
        for (int size : Edges.outside(0, 1000)) {
            Check.dueThrow("size " + size, Check.ARGUMENT, () -> things(0).thing(0, size));
            Check.dueThrow("size " + size + ", 10 things", Check.ARGUMENT, () -> things(10).thing(0, size));
        }
        Check.sentence(8, "Returns its number.");
        for (int count = 0; count < 10; count++) {
            Check.due("after " + count, things(count).thing(65535, 1000), count);
        }
        Check.sentence(8, "Throws `IllegalArgumentException` if marks or size is out of range");
        int[][] wrong = {{-1, 0}, {65536, 0}, {0, -1}, {0, 1001}, {-1, -1}, {65536, 1001}, {-1, 1001}, {65536, -1}};
        for (int[] pair : wrong) {
            Restitutory x = things(0);
            Check.dueThrow(pair[0] + " and " + pair[1], Check.ARGUMENT, () -> x.thing(pair[0], pair[1]));
            Check.due("it was not told", x.thing(65535, 1000), 0);
        }
        Check.sentence(8, "Throws `IllegalStateException` if there are 10");
        Check.due("9", things(9).thing(0, 0), 9);
        Restitutory full = things(10);
        Check.dueThrow("10", Check.STATE, () -> full.thing(0, 0));
        Check.dueThrow("10 again", Check.STATE, () -> full.thing(65535, 1000));
        Check.dueThrow("no 11th one came", Check.INDEX, () -> full.likest(10));
    }

    private static void promise9() {
        Check.sentence(9, "Tells a mark of a thing, or takes it back.");
        for (int mark = 0; mark < 16; mark++) {
            Restitutory x = new Restitutory();
            x.thing(0, 0);
            x.thing(65535, 0);
            x.mark(0, mark, true);
            x.mark(1, mark, false);
            Check.due("told mark " + mark, x.likeness(0, 0), 10);
            Check.due("took mark " + mark + " back", x.likeness(1, 1), 150);
            Check.due("it was this one", x.likeness(0, 1), -80);
            x.mark(0, mark, true);
            x.mark(1, mark, false);
            Check.due("told again, or taken back again", x.likeness(0, 1), -80);
            x.mark(0, mark, false);
            x.mark(1, mark, true);
            Check.due("the other way round", x.likeness(0, 1), -80);
            Check.due("none", x.likeness(0, 0), 0);
            Check.due("all", x.likeness(1, 1), 160);
        }
        Check.sentence(9, "- `mark`: 0 to 15");
        for (int mark : Edges.inside(0, 15)) {
            Check.due("mark " + mark, things(10).mark(9, mark, true), false);
        }
        for (int mark : Edges.outside(0, 15)) {
            Check.dueThrow("mark " + mark, Check.ARGUMENT, () -> things(1).mark(0, mark, true));
            Check.dueThrow("mark " + mark + " back", Check.ARGUMENT, () -> things(1).mark(0, mark, false));
        }
        Check.sentence(9, "Returns whether it was told.");
        for (int mark = 0; mark < 16; mark++) {
            Restitutory x = new Restitutory();
            x.thing(1 << mark, 0);
            Check.due("told with the thing", x.mark(0, mark, true), true);
            Check.due("told once more", x.mark(0, mark, false), true);
            Check.due("taken back", x.mark(0, mark, false), false);
            Check.due("taken back twice", x.mark(0, mark, true), false);
            Check.due("told", x.mark(0, mark, false), true);
        }
        Check.sentence(9, "Throws `IndexOutOfBoundsException` as told");
        for (int count : new int[] {0, 1, 9, 10}) {
            for (int thing : Edges.outside(0, count - 1)) {
                Check.dueThrow("thing " + thing + " of " + count, Check.INDEX, () -> things(count).mark(thing, 0, true));
                Check.dueThrow("and mark 16", Check.INDEX, () -> things(count).mark(thing, 16, true));
            }
        }
        Check.sentence(9, "Throws `IllegalArgumentException` if mark is out of range");
        Restitutory x = things(1);
        for (int mark : new int[] {-1, 16, 31, 32, -16}) {
            Check.dueThrow("mark " + mark, Check.ARGUMENT, () -> x.mark(0, mark, true));
            Check.due("nothing was told", x.likeness(0, 0), 0);
        }
    }

    private static void promise10() {
        Check.sentence(10, "Tells a station.");
        Restitutory x = stations(0);
        Check.due("before", x.holder(0), -1);
        x.station(0, 1, GIVEN, 0, 1950);
        Check.due("then", x.holder(0), 1);
        Check.due("not of the other thing", x.holder(1), -1);
        x.die(0);
        x.station(0, 0, GIVEN, 0, 1950);
        Check.due("the dead may be parties", x.holder(0), 0);
        x.station(0, 0, GIVEN, 0, 1950);
        Check.due("one may be the party twice", x.stationAt(0, 2), 2);
        Check.sentence(10, "- `kind`: BOUGHT to LEFT");
        for (int kind : Edges.inside(0, 5)) {
            Check.due("kind " + kind, stations(0).station(0, 0, kind, 0, 1950), 0);
        }
        for (int kind : Edges.outside(0, 5)) {
            Check.dueThrow("kind " + kind, Check.ARGUMENT, () -> stations(0).station(0, 0, kind, 0, 1950));
        }
        Check.sentence(10, "- `year`: 1900 to now");
        for (int now : new int[] {1900, 1901, 1950, 2099, 2100}) {
            for (int year : Edges.inside(1900, now)) {
                Check.due(year + " in " + now, inYear(now).station(0, 0, GIVEN, 0, year), 0);
            }
            for (int year : Edges.outside(1900, now)) {
                Check.dueThrow(year + " in " + now, Check.ARGUMENT, () -> inYear(now).station(0, 0, GIVEN, 0, year));
            }
        }
        Check.sentence(10, "Returns its number.");
        for (int count = 0; count < 8; count++) {
            Check.due("an earlier one after " + count, stations(count).station(0, 1, BOUGHT, 4, 1900), count);
            Check.due("a later one after " + count, stations(count).station(0, 1, BOUGHT, 4, 2000), count);
            Check.due("of the other thing", stations(count).station(1, 1, BOUGHT, 4, 2000), 0);
        }
    }

    private static Restitutory inYear(int now) {
        Restitutory x = things(1);
        x.person(0);
        x.now(now);
        return x;
    }

    private static void promise10Refused() {
        Check.sentence(10, "Throws `IndexOutOfBoundsException` as told, of the thing, the party or the land");
        for (int wrong : Edges.outside(0, 1)) {
            Check.dueThrow("thing " + wrong, Check.INDEX, () -> stations(0).station(wrong, 0, GIVEN, 0, 1950));
            Check.dueThrow("party " + wrong, Check.INDEX, () -> stations(0).station(0, wrong, GIVEN, 0, 1950));
            Check.dueThrow("thing " + wrong + ", no kind", Check.INDEX, () -> stations(0).station(wrong, 0, 6, 0, 1950));
            Check.dueThrow("party " + wrong + ", no year", Check.INDEX, () -> stations(0).station(0, wrong, 0, 0, 2001));
        }
        for (int land : Edges.outside(0, 4)) {
            Check.dueThrow("land " + land, Check.INDEX, () -> stations(0).station(0, 0, GIVEN, land, 1950));
            Check.dueThrow("land " + land + ", no kind, no year", Check.INDEX,
                () -> stations(0).station(0, 0, -1, land, 1899));
            Check.dueThrow("land " + land + ", 8 stations", Check.INDEX, () -> stations(8).station(0, 0, 6, land, 1950));
        }
        Check.dueThrow("no things", Check.INDEX, () -> new Restitutory().station(0, 0, 0, 0, 1900));
        Check.dueThrow("no people", Check.INDEX, () -> things(10).station(0, 0, 0, 0, 1900));
        Check.sentence(10, "Throws `IllegalArgumentException` if kind or year is out of range");
        int[][] wrong = {{-1, 1950}, {6, 1950}, {0, 1899}, {5, 2001}, {-1, 1899}, {6, 2001}, {0, 2100}, {0, 2101}};
        for (int[] pair : wrong) {
            Restitutory x = stations(0);
            Check.dueThrow("kind " + pair[0] + " in " + pair[1], Check.ARGUMENT, () -> x.station(0, 0, pair[0], 0, pair[1]));
            Check.due("it was not told", x.stationAt(0, 0), -1);
            Check.due("the next one has its number", x.station(0, 0, 5, 4, 2000), 0);
            Check.dueThrow("8 stations too", Check.ARGUMENT, () -> stations(8).station(0, 0, pair[0], 0, pair[1]));
        }
    }

    private static void promise10Full() {
        Check.sentence(10, "Throws `IllegalStateException` if the thing has 8");
        Check.due("7", stations(7).station(0, 1, LEFT, 4, 2000), 7);
        for (int year : new int[] {1900, 1949, 1950, 1951, 2000}) {
            Restitutory x = stations(8);
            Check.dueThrow("8, in " + year, Check.STATE, () -> x.station(0, 1, BOUGHT, 4, year));
            Check.dueThrow("8, in " + year + " again", Check.STATE, () -> x.station(0, 1, LEFT, 0, year));
            order("they stand as they stood", x, 0, 1, 2, 3, 4, 5, 6, 7);
            Check.due("the holder is the one before", x.holder(0), 0);
            Check.due("the other thing has room", x.station(1, 1, BOUGHT, 4, year), 0);
        }
    }

    private static void promise11() {
        Check.sentence(11, "Rebuts a presumption, or not any more.");
        Restitutory x = stations(1);
        x.persecution(0, 0, 1900, 2100);
        x.station(0, 1, BOUGHT, 0, 1960);
        Check.due("presumed", x.isLoss(0, 1), true);
        x.rebut(0, 1, true);
        Check.due("rebutted", x.isLoss(0, 1), false);
        x.rebut(0, 1, true);
        Check.due("rebutted twice", x.isLoss(0, 1), false);
        x.rebut(0, 1, false);
        Check.due("not any more", x.isLoss(0, 1), true);
        x.rebut(0, 1, false);
        Check.due("still not", x.isLoss(0, 1), true);
        Check.sentence(11, "Returns whether it was rebutted.");
        for (int count = 0; count < 8; count++) {
            Restitutory y = stations(count);
            y.station(0, 1, BOUGHT, 0, 1950);
            Check.due("not at first", y.rebut(0, count, false), false);
            Check.due("not yet", y.rebut(0, count, true), false);
            Check.due("rebutted", y.rebut(0, count, true), true);
            Check.due("rebutted till now", y.rebut(0, count, false), true);
            Check.due("not any more", y.rebut(0, count, false), false);
            Check.due("a settlement is something else", y.settle(0, count, true), false);
            Check.due("not by a settlement", y.rebut(0, count, false), false);
        }
        Restitutory many = stations(0);
        for (int i = 0; i < 16; i++) {
            many.station(i % 2, 0, BOUGHT, 0, 1950 - i / 2);
        }
        for (int i = 0; i < 16; i++) {
            Check.due("each one by itself", many.rebut(i % 2, i / 2, true), false);
        }
    }

    private static void promise11OutOfOrder() {
        Check.sentence(11, "Rebuts a presumption, or not any more.");
        Restitutory x = stations(0);
        x.persecution(0, 0, 1900, 2100);
        x.station(0, 1, BOUGHT, 0, 1960);
        x.station(0, 0, BOUGHT, 0, 1950);
        x.rebut(0, 0, true);
        Check.due("the number told, not the place", x.isLoss(0, 0), false);
        x.station(0, 0, GIVEN, 0, 1900);
        x.station(0, 0, GIVEN, 0, 1955);
        Check.due("earlier ones told after the rebuttal", x.isLoss(0, 0), false);
        Check.due("the other one was not rebutted", x.isLoss(0, 1), true);
        Check.dueThrow("number 2 stands first and is not BOUGHT", Check.ARGUMENT, () -> x.rebut(0, 2, true));
        Check.due("number 0 is rebutted still", x.rebut(0, 0, false), true);
        Check.due("and not any more", x.isLoss(0, 0), true);
        Check.due("number 1 was not", x.rebut(0, 1, true), false);
        Check.due("and is", x.isLoss(0, 1), false);
    }

    private static void promise11Refused() {
        Check.sentence(11, "Throws `IndexOutOfBoundsException` as told, of the thing or the station");
        for (int thing : Edges.outside(0, 1)) {
            Check.dueThrow("thing " + thing, Check.INDEX, () -> bought(2).rebut(thing, 0, true));
        }
        for (int count : new int[] {0, 1, 7, 8}) {
            for (int station : Edges.outside(0, count - 1)) {
                Check.dueThrow("station " + station + " of " + count, Check.INDEX,
                    () -> bought(count).rebut(0, station, true));
                Check.dueThrow("back " + station + " of " + count, Check.INDEX,
                    () -> bought(count).rebut(0, station, false));
            }
        }
        Check.dueThrow("a station of the other thing alone", Check.INDEX, () -> bought(8).rebut(1, 0, true));
        Check.sentence(11, "Throws `IllegalArgumentException` if the station is not BOUGHT");
        for (int kind = GIVEN; kind <= LEFT; kind++) {
            for (boolean is : new boolean[] {true, false}) {
                for (int count : new int[] {0, 7}) {
                    Restitutory x = stations(count);
                    x.station(0, 1, kind, 0, 1950);
                    Check.dueThrow("kind " + kind, Check.ARGUMENT, () -> x.rebut(0, count, is));
                }
            }
        }
        Check.dueNoThrow("BOUGHT, and no presumption", () -> bought(1).rebut(0, 0, true));
    }

    private static Restitutory bought(int count) {
        Restitutory x = stations(0);
        for (int i = 0; i < count; i++) {
            x.station(0, 0, BOUGHT, 0, 1950);
        }
        return x;
    }

    private static void promise12() {
        Check.sentence(12, "Tells that a station was settled, or not any more.");
        Restitutory x = stations(1);
        x.station(0, 1, SEIZED, 0, 1960);
        Check.due("a loss", x.owner(0), 0);
        x.settle(0, 1, true);
        Check.due("settled", x.owner(0), 1);
        x.settle(0, 1, true);
        Check.due("settled twice", x.owner(0), 1);
        x.settle(0, 1, false);
        Check.due("not any more", x.owner(0), 0);
        Check.sentence(12, "Returns whether it was settled.");
        for (int kind = BOUGHT; kind <= LEFT; kind++) {
            for (int count = 0; count < 8; count++) {
                Restitutory y = stations(count);
                y.station(0, 1, kind, 0, 1950);
                Check.due("not at first", y.settle(0, count, false), false);
                Check.due("not yet", y.settle(0, count, true), false);
                Check.due("settled", y.settle(0, count, true), true);
                Check.due("settled till now", y.settle(0, count, false), true);
                Check.due("not any more", y.settle(0, count, false), false);
            }
        }
        Restitutory many = stations(0);
        for (int i = 0; i < 16; i++) {
            many.station(i % 2, 0, i % 6, 0, 1950 - i / 2);
        }
        for (int i = 0; i < 16; i++) {
            Check.due("each one by itself", many.settle(i % 2, i / 2, true), false);
        }
        Restitutory rebutted = bought(1);
        rebutted.rebut(0, 0, true);
        Check.due("not by a rebuttal", rebutted.settle(0, 0, false), false);
        Check.due("nor a rebuttal ended by it", rebutted.rebut(0, 0, true), true);
    }

    private static void promise12OutOfOrder() {
        Check.sentence(12, "Tells that a station was settled, or not any more.");
        Restitutory x = stations(0);
        x.station(0, 1, SEIZED, 0, 1960);
        x.station(0, 0, GIVEN, 0, 1950);
        x.settle(0, 0, true);
        Check.due("the number told, not the place", x.owner(0), 1);
        x.station(0, 0, GIVEN, 0, 1900);
        x.station(0, 0, GIVEN, 0, 1955);
        Check.due("earlier ones told after the settlement", x.owner(0), 1);
        for (int i = 1; i < 4; i++) {
            Check.due("station " + i + " was not settled", x.settle(0, i, false), false);
        }
        Check.due("number 0 is settled still", x.settle(0, 0, false), true);
        Check.due("and not any more", x.owner(0), 0);
    }

    private static void promise12Refused() {
        Check.sentence(12, "Throws `IndexOutOfBoundsException` as told, of the thing or the station");
        for (int thing : Edges.outside(0, 1)) {
            Check.dueThrow("thing " + thing, Check.INDEX, () -> stations(2).settle(thing, 0, true));
        }
        for (int count : new int[] {0, 1, 7, 8}) {
            for (int station : Edges.outside(0, count - 1)) {
                Check.dueThrow("station " + station + " of " + count, Check.INDEX,
                    () -> stations(count).settle(0, station, true));
                Check.dueThrow("back " + station + " of " + count, Check.INDEX,
                    () -> stations(count).settle(0, station, false));
            }
        }
        Check.dueThrow("a station of the other thing alone", Check.INDEX, () -> stations(8).settle(1, 0, true));
    }

    private static void promise15() {
        Check.sentence(15, "Returns the likeness of two things.");
        Restitutory x = new Restitutory();
        for (int i = 0; i < 10; i++) {
            x.thing((1 << i) - 1, 100 * i);
        }
        for (int i = 0; i < 10; i++) {
            for (int j = 0; j < 10; j++) {
                int apart = i > j ? i - j : j - i;
                Check.due(i + " and " + j, x.likeness(i, j), 10 * (i < j ? i : j) - 105 * apart);
            }
        }
        Check.sentence(15, "Throws `IndexOutOfBoundsException` as told, of both");
        for (int count : new int[] {1, 9, 10}) {
            for (int thing : Edges.outside(0, count - 1)) {
                Check.dueThrow("thing " + thing + " of " + count, Check.INDEX, () -> things(count).likeness(thing, 0));
                Check.dueThrow("other " + thing + " of " + count, Check.INDEX, () -> things(count).likeness(0, thing));
                Check.dueThrow("both " + thing, Check.INDEX, () -> things(count).likeness(thing, thing));
            }
        }
        Check.dueThrow("no things", Check.INDEX, () -> things(0).likeness(0, 0));
    }

    private static void promise16() {
        Check.sentence(16, "Returns the other thing that is most like one, of alike ones the lowest.");
        Restitutory least = new Restitutory();
        least.thing(0, 0);
        least.thing(65535, 1000);
        Check.due("the only other one, and the least like", least.likest(0), 1);
        Check.due("the other way round", least.likest(1), 0);
        for (int best = 0; best < 10; best++) {
            for (int thing = 0; thing < 10; thing++) {
                if (thing == best) {
                    continue;
                }
                Restitutory x = new Restitutory();
                for (int i = 0; i < 10; i++) {
                    x.thing(i == best || i == thing ? 1 : 0, i == thing ? 300 : 0);
                }
                Check.due("to " + thing + " by a mark", x.likest(thing), best);
                Restitutory y = new Restitutory();
                for (int i = 0; i < 10; i++) {
                    y.thing(0, i == thing ? 500 : i == best ? 1 : 0);
                }
                Check.due("to " + thing + " by one of size", y.likest(thing), best);
            }
        }
        Check.sentence(16, "Returns the thing; NONE without another one.");
        Restitutory alone = new Restitutory();
        alone.thing(65535, 1000);
        Check.due("alone", alone.likest(0), -1);
        alone.thing(0, 0);
        Check.due("not alone", alone.likest(0), 1);
        Check.sentence(16, "Throws `IndexOutOfBoundsException` as told");
        for (int count : new int[] {0, 1, 9, 10}) {
            for (int thing : Edges.outside(0, count - 1)) {
                Check.dueThrow("thing " + thing + " of " + count, Check.INDEX, () -> things(count).likest(thing));
            }
        }
    }

    private static void promise16Alike() {
        Check.sentence(16, "Returns the other thing that is most like one, of alike ones the lowest.");
        for (int count = 2; count <= 10; count++) {
            for (int thing = 0; thing < count; thing++) {
                Check.due("all alike, " + thing + " of " + count, things(count).likest(thing), thing == 0 ? 1 : 0);
            }
        }
        for (int low = 0; low < 10; low++) {
            for (int high = low + 1; high < 10; high++) {
                for (int thing = 0; thing < 10; thing++) {
                    if (thing == low || thing == high) {
                        continue;
                    }
                    Restitutory x = new Restitutory();
                    for (int i = 0; i < 10; i++) {
                        // One is larger and one smaller than the thing by as much, the others by more.
                        x.thing(0, i == thing ? 500 : i == low ? 700 : i == high ? 300 : 1000);
                    }
                    Check.due("of " + low + " and " + high + " to " + thing, x.likest(thing), low);
                }
            }
        }
        Restitutory marks = new Restitutory();
        marks.thing(3, 0);
        marks.thing(0, 0);
        marks.thing(0b0101, 5);
        marks.thing(3, 30);
        Check.due("-10 and -5 and -10", marks.likest(0), 2);
        marks.mark(2, 0, false);
        Check.due("-10 and -20 and -10", marks.likest(0), 1);
    }

    private static void promise17() {
        Check.sentence(17, "Returns the station at a place of the order.");
        order("told out of order", told(1950, 1940, 1960, 1950, 1940, 1955, 2000, 1900), 7, 1, 4, 0, 3, 5, 2, 6);
        Check.sentence(17, "- `place`: 0 for the first one");
        Check.due("the only one", told(1950).stationAt(0, 0), 0);
        Check.due("the earliest one", told(1950, 1949).stationAt(0, 0), 1);
        Check.due("the first told of a year", told(1950, 1950).stationAt(0, 0), 0);
        Check.sentence(17, "Returns its number; NONE beyond.");
        for (int count = 0; count <= 8; count++) {
            Restitutory x = stations(count);
            for (int place = 0; place <= 12; place++) {
                Check.due("place " + place + " of " + count, x.stationAt(0, place), place < count ? place : -1);
            }
            for (int place : Edges.outside(0, 12)) {
                if (place > 0) {
                    Check.due("place " + place + " of " + count, x.stationAt(0, place), -1);
                }
            }
            Check.due("the other thing's first place", x.stationAt(1, 0), -1);
        }
    }

    private static void promise17Refused() {
        Check.sentence(17, "Throws `IndexOutOfBoundsException` as told, of the thing, or if place is below 0");
        for (int count : new int[] {0, 1, 10}) {
            for (int thing : Edges.outside(0, count - 1)) {
                Check.dueThrow("thing " + thing + " of " + count, Check.INDEX, () -> things(count).stationAt(thing, 0));
                Check.dueThrow("and no such place", Check.INDEX, () -> things(count).stationAt(thing, -1));
            }
        }
        for (int count : new int[] {0, 1, 8}) {
            for (int place : Edges.outside(0, 12)) {
                if (place < 0) {
                    Check.dueThrow("place " + place + " of " + count, Check.INDEX,
                        () -> stations(count).stationAt(0, place));
                }
            }
        }
    }

    /** All ways to tell four stations in three years, against a stable sort by hand. */
    private static void promise17Orders() {
        Check.sentence(17, "Returns the station at a place of the order.");
        for (int code = 0; code < 81; code++) {
            Restitutory x = stations(0);
            int[] years = {1900 + code % 3, 1900 + code / 3 % 3, 1900 + code / 9 % 3, 1900 + code / 27};
            for (int year : years) {
                x.station(1, 0, 1, 0, year);
            }
            int place = 0;
            for (int year = 1900; year <= 1902; year++) {
                for (int station = 0; station < 4; station++) {
                    if (years[station] == year) {
                        Check.due("code " + code + " place " + place, x.stationAt(1, place), station);
                        place++;
                    }
                }
            }
        }
    }
}
