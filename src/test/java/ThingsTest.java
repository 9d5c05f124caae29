/** Promises 8 to 12 and 15 to 17: things, marks, stations, and how like things are. */
public final class ThingsTest {
    private static final int MIN = Integer.MIN_VALUE;
    private static final int MAX = Integer.MAX_VALUE;
    private static final int[] NO_THINGS = {-1, 2, 10, MIN, MAX};

    public static void main(String[] args) {
        promise8Thing();
        promise9Mark();
        promise10Station();
        promise10Exceptions();
        promise11Rebut();
        promise12Settle();
        promise15Likeness();
        promise16Likest();
        promise17StationAt();
        promise17Orders();
        Check.end();
    }

    private static Restitutory withTwoThings() {
        Restitutory x = new Restitutory();
        x.person(0);
        x.person(1);
        x.now(2000);
        x.thing(0, 0);
        x.thing(0, 0);
        return x;
    }

    private static void promise8Thing() {
        Restitutory x = new Restitutory();
        Check.dueThrow("8: marks -1", Check.ARGUMENT, () -> x.thing(-1, 0));
        Check.dueThrow("8: marks 65536", Check.ARGUMENT, () -> x.thing(65536, 0));
        Check.dueThrow("8: size -1", Check.ARGUMENT, () -> x.thing(0, -1));
        Check.dueThrow("8: size 1001", Check.ARGUMENT, () -> x.thing(0, 1001));
        Check.dueThrow("8: far off", Check.ARGUMENT, () -> x.thing(MIN, MAX));
        Check.dueThrow("8: throwing told nothing", Check.INDEX, () -> x.likest(0));
        Check.due("8: the least", x.thing(0, 0), 0);
        Check.due("8: the most", x.thing(65535, 1000), 1);
        for (int i = 2; i < 10; i++) {
            Check.due("8: thing " + i, x.thing(i, i), i);
        }
        Check.dueThrow("8: an 11th", Check.STATE, () -> x.thing(0, 0));
        Check.dueThrow("8: an 11th of size 1001", Check.ARGUMENT, () -> x.thing(0, 1001));
        Check.dueThrow("8: an 11th of wrong marks", Check.ARGUMENT, () -> x.thing(-1, 0));
        Check.dueThrow("8: still 10", Check.INDEX, () -> x.likest(10));
        Check.due("8: the last one is there", x.likeness(9, 9), 20);
    }

    private static void promise9Mark() {
        Restitutory x = withTwoThings();
        for (int thing : NO_THINGS) {
            Check.dueThrow("9: thing " + thing, Check.INDEX, () -> x.mark(thing, 0, true));
            Check.dueThrow("9: thing and mark wrong", Check.INDEX, () -> x.mark(thing, 16, true));
        }
        for (int mark : new int[] {-1, 16, 32, MIN, MAX}) {
            Check.dueThrow("9: mark " + mark, Check.ARGUMENT, () -> x.mark(0, mark, true));
        }
        Check.due("9: throwing told nothing", x.likeness(0, 0), 0);
        for (int mark = 0; mark < 16; mark++) {
            Check.due("9: not told", x.mark(0, mark, false), false);
            Check.due("9: told now", x.mark(0, mark, true), false);
            Check.due("9: told twice", x.mark(0, mark, true), true);
            Check.due("9: how many there are", x.likeness(0, 0), 10 * (mark + 1));
        }
        for (int mark = 0; mark < 16; mark++) {
            Check.due("9: taken back", x.mark(0, mark, false), true);
            Check.due("9: not there any more", x.mark(0, mark, false), false);
            Check.due("9: how many are left", x.likeness(0, 0), 10 * (15 - mark));
        }
        Check.due("9: the other thing has none", x.likeness(1, 1), 0);
        Check.due("9: a thing is told with marks", x.thing(4, 0), 2);
        Check.due("9: mark 2 of them", x.mark(2, 2, false), true);
        Check.due("9: and not mark 1", x.mark(2, 1, false), false);
    }

    private static void promise10Station() {
        Restitutory x = withTwoThings();
        for (int i = 0; i < 8; i++) {
            Check.due("10: station " + i, x.station(0, i % 2, i % 6, i % 5, 1900 + i), i);
        }
        Check.dueThrow("10: a 9th", Check.STATE, () -> x.station(0, 0, 0, 0, 1900));
        Check.dueThrow("10: a 9th of no kind", Check.ARGUMENT, () -> x.station(0, 0, 6, 0, 1900));
        Check.dueThrow("10: a 9th in no land", Check.INDEX, () -> x.station(0, 0, 6, 5, 1900));
        Check.due("10: still 8", x.stationAt(0, 8), -1);
        Check.due("10: the last one", x.stationAt(0, 7), 7);
        Check.due("10: the other thing counts from 0", x.station(1, 0, 5, 4, 2000), 0);
        Check.due("10: the party holds it", x.holder(1), 0);
        x.die(1);
        Check.due("10: the dead may be parties", x.station(1, 1, 1, 0, 2000), 1);
        Check.due("10: the party holds it", x.holder(1), 1);
    }

    private static void promise10Exceptions() {
        Restitutory x = withTwoThings();
        for (int thing : NO_THINGS) {
            Check.dueThrow("10: thing " + thing, Check.INDEX, () -> x.station(thing, 0, 0, 0, 1900));
            Check.dueThrow("10: party " + thing, Check.INDEX, () -> x.station(0, thing, 0, 0, 1900));
            Check.dueThrow("10: also if kind and year are wrong", Check.INDEX, () -> x.station(0, thing, 6, 0, 1899));
        }
        for (int land : new int[] {-1, 5, MIN, MAX}) {
            Check.dueThrow("10: land " + land, Check.INDEX, () -> x.station(0, 0, 0, land, 1900));
            Check.dueThrow("10: land and kind wrong", Check.INDEX, () -> x.station(0, 0, -1, land, 1900));
        }
        for (int kind : new int[] {-1, 6, MIN, MAX}) {
            Check.dueThrow("10: kind " + kind, Check.ARGUMENT, () -> x.station(0, 0, kind, 0, 1900));
        }
        for (int year : new int[] {1899, 2001, 2100, MIN, MAX}) {
            Check.dueThrow("10: year " + year, Check.ARGUMENT, () -> x.station(0, 0, 0, 0, year));
        }
        Check.due("10: throwing told nothing", x.stationAt(0, 0), -1);
        Check.due("10: this year", x.station(0, 0, 0, 0, 2000), 0);
        Check.due("10: the first year", x.station(0, 0, 5, 4, 1900), 1);
        x.now(2001);
        Check.due("10: the year that it is then", x.station(0, 0, 0, 0, 2001), 2);
    }

    private static void promise11Rebut() {
        Restitutory x = withTwoThings();
        for (int kind = 0; kind < 6; kind++) {
            x.station(0, kind % 2, kind, 0, 1950);
        }
        for (int thing : NO_THINGS) {
            Check.dueThrow("11: thing " + thing, Check.INDEX, () -> x.rebut(thing, 0, true));
        }
        for (int station : new int[] {-1, 6, 8, MIN, MAX}) {
            Check.dueThrow("11: station " + station, Check.INDEX, () -> x.rebut(0, station, true));
        }
        Check.dueThrow("11: a thing without stations", Check.INDEX, () -> x.rebut(1, 0, true));
        for (int kind = 1; kind < 6; kind++) {
            int station = kind;
            Check.dueThrow("11: kind " + kind, Check.ARGUMENT, () -> x.rebut(0, station, true));
            Check.dueThrow("11: kind " + kind, Check.ARGUMENT, () -> x.rebut(0, station, false));
        }
        Check.due("11: not rebutted at first, the first station too", x.rebut(0, 0, false), false);
        Check.due("11: rebutted", x.rebut(0, 0, true), false);
        Check.due("11: twice", x.rebut(0, 0, true), true);
        Check.due("11: not any more", x.rebut(0, 0, false), true);
        Check.due("11: not rebutted", x.rebut(0, 0, true), false);
        x.station(0, 1, 0, 0, 1950);
        Check.due("11: each station by itself", x.rebut(0, 6, true), false);
        x.station(1, 1, 0, 0, 1950);
        Check.due("11: each thing by itself", x.rebut(1, 0, true), false);
    }

    private static void promise12Settle() {
        Restitutory x = withTwoThings();
        for (int kind = 0; kind < 6; kind++) {
            x.station(0, kind % 2, kind, 0, 1950);
        }
        for (int thing : NO_THINGS) {
            Check.dueThrow("12: thing " + thing, Check.INDEX, () -> x.settle(thing, 0, true));
        }
        for (int station : new int[] {-1, 6, 8, MIN, MAX}) {
            Check.dueThrow("12: station " + station, Check.INDEX, () -> x.settle(0, station, true));
        }
        Check.dueThrow("12: a thing without stations", Check.INDEX, () -> x.settle(1, 0, true));
        for (int kind = 0; kind < 6; kind++) {
            Check.due("12: not settled at first, kind " + kind, x.settle(0, kind, false), false);
            Check.due("12: settled", x.settle(0, kind, true), false);
            Check.due("12: twice", x.settle(0, kind, true), true);
            Check.due("12: not any more", x.settle(0, kind, false), true);
            Check.due("12: not settled", x.settle(0, kind, true), false);
        }
        Check.due("12: settled is not rebutted", x.rebut(0, 0, false), false);
        x.station(1, 1, 0, 0, 1950);
        Check.due("12: each thing by itself", x.settle(1, 0, true), false);
    }

    private static void promise15Likeness() {
        Restitutory x = new Restitutory();
        x.thing(0b0111, 100);
        x.thing(0b1101, 90);
        x.thing(0b0111, 100);
        x.thing(0, 1000);
        Check.due("15: 2 both, 2 just one, 10 apart", x.likeness(0, 1), 0);
        Check.due("15: the other way round", x.likeness(1, 0), 0);
        Check.due("15: 3 both", x.likeness(0, 2), 30);
        Check.due("15: with itself", x.likeness(1, 1), 30);
        Check.due("15: 3 just one, 900 apart", x.likeness(0, 3), -915);
        x.mark(0, 3, true);
        Check.due("15: after a mark", x.likeness(0, 1), 15);
        x.thing(65535, 0);
        Check.due("15: the least likeness", x.likeness(3, 4), -1080);
        Check.due("15: the most", x.likeness(4, 4), 160);
        for (int thing : new int[] {-1, 5, 10, MIN, MAX}) {
            Check.dueThrow("15: thing " + thing, Check.INDEX, () -> x.likeness(thing, 0));
            Check.dueThrow("15: other " + thing, Check.INDEX, () -> x.likeness(0, thing));
        }
    }

    private static void promise16Likest() {
        Restitutory x = new Restitutory();
        Check.dueThrow("16: no things", Check.INDEX, () -> x.likest(0));
        x.thing(0, 500);
        Check.due("16: no other one", x.likest(0), -1);
        x.thing(0, 0);
        Check.due("16: the only other one", x.likest(0), 1);
        Check.due("16: the only other one", x.likest(1), 0);
        x.thing(0, 1000);
        Check.due("16: of alike ones the lowest", x.likest(0), 1);
        Check.due("16: likeness below 0", x.likest(2), 0);
        x.thing(0, 999);
        Check.due("16: a later one more like", x.likest(0), 3);
        Check.due("16: a later one more like", x.likest(2), 3);
        x.thing(0, 999);
        Check.due("16: itself does not count", x.likest(4), 3);
        Check.due("16: of alike ones the lowest", x.likest(2), 3);
        for (int mark = 0; mark < 16; mark++) {
            x.mark(0, mark, true);
            x.mark(1, mark, true);
        }
        Check.due("16: by marks", x.likest(0), 1);
        for (int thing : new int[] {-1, 5, 10, MIN, MAX}) {
            Check.dueThrow("16: thing " + thing, Check.INDEX, () -> x.likest(thing));
        }
    }

    private static void promise17StationAt() {
        Restitutory x = withTwoThings();
        for (int thing : NO_THINGS) {
            Check.dueThrow("17: thing " + thing, Check.INDEX, () -> x.stationAt(thing, 0));
        }
        Check.dueThrow("17: place -1", Check.INDEX, () -> x.stationAt(0, -1));
        Check.dueThrow("17: place far below", Check.INDEX, () -> x.stationAt(0, MIN));
        Check.due("17: no stations", x.stationAt(0, 0), -1);
        int[] years = {1950, 1940, 1960, 1950, 1940, 1955, 2000, 1900};
        int[] order = {7, 1, 4, 0, 3, 5, 2, 6};
        for (int year : years) {
            x.station(0, 0, 0, 0, year);
        }
        for (int place = 0; place < 8; place++) {
            Check.due("17: place " + place, x.stationAt(0, place), order[place]);
        }
        for (int place : new int[] {8, 9, 1000, MAX}) {
            Check.due("17: place " + place, x.stationAt(0, place), -1);
        }
        Check.due("17: the other thing has none", x.stationAt(1, 0), -1);
    }

    /** All ways to tell four stations in three years, against a stable sort by hand. */
    private static void promise17Orders() {
        for (int code = 0; code < 81; code++) {
            Restitutory x = withTwoThings();
            int[] years = {1900 + code % 3, 1900 + code / 3 % 3, 1900 + code / 9 % 3, 1900 + code / 27};
            for (int year : years) {
                x.station(1, 0, 1, 0, year);
            }
            int place = 0;
            for (int year = 1900; year <= 1902; year++) {
                for (int station = 0; station < 4; station++) {
                    if (years[station] == year) {
                        Check.due("17: code " + code + " place " + place, x.stationAt(1, place), station);
                        place++;
                    }
                }
            }
        }
    }
}
