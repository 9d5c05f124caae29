/** Promises 1 to 7, 13 and 14 with their terms: a method for each sentence, and in it the sentence's edges. */
public final class PeopleTest {
    private static final int MAX = Integer.MAX_VALUE;
    private static final int MIN = Integer.MIN_VALUE;

    public static void main(String[] args) {
        termPeople();
        termLandsAndYears();
        termPersecution();
        termHeirsOneByOne();
        termHeirOfTheDead();
        promise1();
        promise2();
        promise3();
        promise4();
        promise5();
        promise5Refused();
        promise6();
        promise7();
        promise13();
        promise14();
        promise14Circles();
        Check.end();
    }

    /** As many people, of the groups 0, 1, 2, 3, 0 and so on. */
    private static Restitutory people(int count) {
        Restitutory x = new Restitutory();
        for (int i = 0; i < count; i++) {
            x.person(i % 4);
        }
        return x;
    }

    /** Each person the only heir of the one ahead; all but the last one are dead. */
    private static Restitutory deadChain(int count) {
        Restitutory x = people(count);
        for (int i = 0; i + 1 < count; i++) {
            x.heir(i, i + 1);
            x.die(i);
        }
        return x;
    }

    private static void termPeople() {
        Check.term("People are numbered from 0, at most 12, each of a group, 0 to 3, living at first.");
        Restitutory x = new Restitutory();
        for (int i = 0; i < 12; i++) {
            int number = i;
            Check.dueThrow("person " + i + " ahead of being told", Check.INDEX, () -> x.heirOf(number));
            Check.due("person " + i, x.person(3 - i % 4), i);
        }
        Check.dueThrow("a 13th one", Check.STATE, () -> x.person(0));
        for (int group = 0; group < 4; group++) {
            x.persecution(group, group, 1900, 1900);
            for (int i = 0; i < 12; i++) {
                Check.due("person " + i + " is of " + group, x.isPersecuted(i, group, 1900), 3 - i % 4 == group);
            }
        }
        for (int i = 0; i < 12; i++) {
            int number = i;
            x.heir((i + 1) % 12, i);
            Check.due("person " + i + " is living", x.heirOf((i + 1) % 12), i);
            Check.dueNoThrow("person " + i + " dies", () -> x.die(number));
        }
    }

    private static void termLandsAndYears() {
        Check.term("There are the lands 0 to 4 and the years 1900 to 2100; now it is 1900 at first.");
        for (int land = 0; land < 5; land++) {
            Restitutory x = people(1);
            x.thing(0, 0);
            Check.due("good faith in " + land, x.faith(land, 1), 0);
            Check.due("persecution in " + land, x.persecution(0, land, 1900, 2100), 1);
            Check.due("persecuted in " + land, x.isPersecuted(0, land, 2000), true);
            Check.due("a station in " + land, x.station(0, 0, 0, land, 1900), 0);
        }
        for (int year : new int[] {1900, 1901, 2099, 2100}) {
            Restitutory x = people(1);
            x.thing(0, 0);
            Check.due("persecution in " + year, x.persecution(0, 0, year, year), 1);
            Check.due("persecuted in " + year, x.isPersecuted(0, 0, year), true);
            Check.due("it is " + year, x.now(year), 1900);
            Check.due("a station in " + year, x.station(0, 0, 0, 0, year), 0);
        }
        Restitutory x = people(1);
        x.thing(0, 0);
        Check.dueThrow("1901 is not yet", Check.ARGUMENT, () -> x.station(0, 0, 0, 0, 1901));
        Check.due("now it is", x.now(1900), 1900);
    }

    private static void termPersecution() {
        Check.term("A persecution is of a group, in a land, from a year to another one, both with them; somebody is"
            + " persecuted in a land and a year, if there is one of the group for that.");
        int[][] spans = {{1900, 1900}, {1900, 2100}, {2100, 2100}, {1933, 1945}, {1950, 1951}, {1901, 2099}};
        for (int[] span : spans) {
            Restitutory x = people(4);
            x.persecution(2, 3, span[0], span[1]);
            for (int year : new int[] {1900, 1901, 1932, 1933, 1945, 1946, 1949, 1950, 1951, 1952, 2099, 2100}) {
                boolean dark = year >= span[0] && year <= span[1];
                String what = span[0] + " to " + span[1] + ", " + year;
                Check.due(what, x.isPersecuted(2, 3, year), dark);
                for (int other = 0; other < 5; other++) {
                    Check.due(what + ", in " + other, x.isPersecuted(2, other, year), dark && other == 3);
                    Check.due(what + ", person " + other % 4, x.isPersecuted(other % 4, 3, year), dark && other == 2);
                }
            }
        }
        Restitutory many = people(4);
        for (int i = 0; i < 20; i++) {
            many.persecution(i / 5, i % 5, 1900 + i, 1900 + i);
        }
        for (int i = 0; i < 20; i++) {
            for (int j = 0; j < 20; j++) {
                Check.due("each of 20, " + i + " and " + j, many.isPersecuted(i / 5, i % 5, 1900 + j), i == j);
            }
        }
        Restitutory two = people(1);
        two.persecution(0, 0, 1940, 1950);
        two.persecution(0, 0, 1930, 1935);
        two.persecution(0, 0, 1936, 1937);
        for (int year = 1928; year <= 1952; year++) {
            Check.due("side by side, " + year, two.isPersecuted(0, 0, year),
                year >= 1930 && year <= 1937 || year >= 1940 && year <= 1950);
        }
    }

    private static void termHeirsOneByOne() {
        Check.term("People have heirs, told one by one.");
        for (int person = 0; person < 12; person++) {
            Restitutory x = people(12);
            for (int i = 1; i < 12; i++) {
                Check.due("heir " + i + " of " + person, x.heir(person, (person + 12 - i) % 12), i);
            }
            for (int i = 1; i < 12; i++) {
                Check.due("the order told", x.heirOf(person), (person + 12 - i) % 12);
                x.die((person + 12 - i) % 12);
            }
            Check.due("all of them dead", x.heirOf(person), -1);
        }
    }

    private static void termHeirOfTheDead() {
        Check.term("The heir of somebody who is dead is, of the heirs in the order in which they were told, the first"
            + " that is living, or, if that one is dead, has an heir so; it is looked at through three generations,"
            + " not more.");
        for (int count = 2; count <= 12; count++) {
            Restitutory chain = deadChain(count);
            for (int i = 0; i < count - 1; i++) {
                int due = count - 1 - i <= 3 ? count - 1 : -1;
                Check.due((count - 1 - i) + " generations", chain.heirOf(i), due);
            }
        }
        Restitutory x = people(6);
        x.heir(0, 5);
        x.heir(0, 1);
        x.heir(5, 4);
        Check.due("the first told is living", x.heirOf(0), 5);
        x.die(5);
        Check.due("the first told is dead and has an heir", x.heirOf(0), 4);
        x.die(4);
        Check.due("the first told is dead and has none living", x.heirOf(0), 1);
        x.heir(5, 3);
        Check.due("the second heir of the first told", x.heirOf(0), 3);
        x.die(3);
        x.heir(3, 2);
        Check.due("by the third generation, ahead of a living first one", x.heirOf(0), 2);
        Restitutory twoWays = deadChain(5);
        Check.due("one way is of four generations", twoWays.heirOf(0), -1);
        twoWays.heir(0, 3);
        Check.due("the same dead one met again, nearer", twoWays.heirOf(0), 4);
    }

    private static void promise1() {
        Check.sentence(1, "Begins in the year 1900, without people, persecutions and things; no land knows good faith.");
        Check.due("the year", new Restitutory().now(2100), 1900);
        for (int number = 0; number < 12; number++) {
            int at = number;
            Check.dueThrow("person " + at, Check.INDEX, () -> new Restitutory().heirOf(at));
            Check.dueThrow("thing " + at, Check.INDEX, () -> new Restitutory().stationAt(at, 0));
        }
        Check.due("the first person", new Restitutory().person(0), 0);
        Check.due("the first thing", new Restitutory().thing(0, 0), 0);
        Check.due("the first persecution", new Restitutory().persecution(3, 4, 1900, 2100), 1);
        for (int land = 0; land < 5; land++) {
            Check.due("good faith in " + land, new Restitutory().faith(land, 60), 0);
            for (int person = 0; person < 4; person++) {
                for (int year : new int[] {1900, 1950, 2000, 2050, 2100}) {
                    Check.due("persecuted", people(4).isPersecuted(person, land, year), false);
                }
            }
            Restitutory x = people(3);
            x.thing(0, 0);
            x.station(0, 0, 1, land, 1900);
            x.station(0, 1, 3, land, 1900);
            x.station(0, 2, 0, land, 1900);
            x.now(2100);
            Check.due("bought long ago in " + land, x.owner(0), 0);
        }
        Restitutory full = people(12);
        full.now(2100);
        full.faith(0, 60);
        Restitutory next = new Restitutory();
        Check.dueThrow("objects share nothing", Check.INDEX, () -> next.heirOf(0));
        Check.due("not the year either", next.now(1900), 1900);
        Check.due("nor good faith", next.faith(0, 0), 0);
    }

    private static void promise2() {
        Check.sentence(2, "Tells a person.");
        Restitutory x = people(1);
        Check.dueThrow("person 1 is not there", Check.INDEX, () -> x.die(1));
        x.person(0);
        Check.dueNoThrow("person 1 is there", () -> x.die(1));
        Check.dueThrow("person 2 is not there", Check.INDEX, () -> x.die(2));
        Check.sentence(2, "Returns the number.");
        for (int count = 0; count < 12; count++) {
            Check.due("after " + count, people(count).person(count % 4), count);
        }
        Check.sentence(2, "Throws `IndexOutOfBoundsException` as told, of the group");
        for (int group : Edges.outside(0, 3)) {
            Check.dueThrow("group " + group, Check.INDEX, () -> people(0).person(group));
            Check.dueThrow("group " + group + ", 12 people", Check.INDEX, () -> people(12).person(group));
        }
        for (int group : Edges.inside(0, 3)) {
            Check.due("group " + group, people(0).person(group), 0);
        }
        Check.sentence(2, "Throws `IllegalStateException` if there are 12");
        Check.due("11", people(11).person(0), 11);
        for (int group : Edges.inside(0, 3)) {
            Restitutory full = people(12);
            Check.dueThrow("12", Check.STATE, () -> full.person(group));
            Check.dueThrow("12 again", Check.STATE, () -> full.person(group));
            Check.dueThrow("no 13th one came", Check.INDEX, () -> full.heirOf(12));
        }
        Restitutory dead = people(12);
        for (int i = 0; i < 12; i++) {
            dead.die(i);
        }
        Check.dueThrow("12 dead ones", Check.STATE, () -> dead.person(0));
    }

    private static void promise3() {
        Check.sentence(3, "Tells that a person is dead.");
        Restitutory x = people(12);
        for (int i = 1; i < 12; i++) {
            x.heir(0, i);
        }
        for (int i = 1; i < 12; i++) {
            Check.due("till then person " + i + " is living", x.heirOf(0), i);
            x.die(i);
            Check.due("person " + i + " is dead", x.heirOf(0), i < 11 ? i + 1 : -1);
        }
        Check.sentence(3, "Throws `IndexOutOfBoundsException` as told");
        for (int count : new int[] {0, 1, 11, 12}) {
            for (int person : Edges.outside(0, count - 1)) {
                Check.dueThrow("person " + person + " of " + count, Check.INDEX, () -> people(count).die(person));
            }
        }
        Check.sentence(3, "Throws `IllegalStateException` if the person is dead");
        for (int i = 0; i < 12; i++) {
            Restitutory y = people(12);
            int person = i;
            Check.dueNoThrow("person " + i + " once", () -> y.die(person));
            Check.dueThrow("person " + i + " twice", Check.STATE, () -> y.die(person));
            Check.dueThrow("person " + i + " a third time", Check.STATE, () -> y.die(person));
            Check.dueNoThrow("another one", () -> y.die((person + 1) % 12));
        }
    }

    private static void promise4() {
        Check.sentence(4, "Tells an heir.");
        Restitutory x = people(3);
        Check.due("before", x.heirOf(0), -1);
        x.heir(0, 2);
        Check.due("then", x.heirOf(0), 2);
        Check.due("not the other way round", x.heirOf(2), -1);
        Check.due("nor of another one", x.heirOf(1), -1);
        Check.sentence(4, "Returns how many heirs the person has then.");
        Restitutory y = people(12);
        for (int i = 0; i < 11; i++) {
            Check.due("of 11", y.heir(11, i), i + 1);
            Check.due("each person by itself", y.heir(i, 11), 1);
        }
        Check.sentence(4, "Throws `IndexOutOfBoundsException` as told, of both");
        for (int count : new int[] {1, 11, 12}) {
            for (int wrong : Edges.outside(0, count - 1)) {
                Check.dueThrow("person " + wrong, Check.INDEX, () -> people(count).heir(wrong, 0));
                Check.dueThrow("heir " + wrong, Check.INDEX, () -> people(count).heir(0, wrong));
                Check.dueThrow("both " + wrong, Check.INDEX, () -> people(count).heir(wrong, wrong));
            }
        }
        Check.sentence(4, "Throws `IllegalArgumentException` if both are the same");
        for (int i = 0; i < 12; i++) {
            int person = i;
            Restitutory z = people(12);
            Check.dueThrow("both " + i, Check.ARGUMENT, () -> z.heir(person, person));
            Check.dueThrow("both " + i + " again", Check.ARGUMENT, () -> z.heir(person, person));
            Check.due("it was not told", z.heir(person, (person + 1) % 12), 1);
        }
        Check.sentence(4, "Throws `IllegalStateException` if it was told");
        Restitutory full = people(12);
        for (int i = 0; i < 12; i++) {
            for (int j = 0; j < 12; j++) {
                if (i != j) {
                    full.heir(i, j);
                    int person = i;
                    int heir = j;
                    Check.dueThrow(j + " of " + i + " at once again", Check.STATE, () -> full.heir(person, heir));
                }
            }
        }
        for (int j = 1; j < 12; j++) {
            int heir = j;
            Check.dueThrow(j + " of 0 in the end", Check.STATE, () -> full.heir(0, heir));
        }
        Check.dueThrow("11 heirs, both the same", Check.ARGUMENT, () -> full.heir(0, 0));
        Check.dueThrow("11 heirs, and one beyond", Check.INDEX, () -> full.heir(0, 12));
        Restitutory dead = people(2);
        dead.heir(0, 1);
        dead.die(0);
        dead.die(1);
        Check.dueThrow("told, and both dead", Check.STATE, () -> dead.heir(0, 1));
        Check.due("the dead may have heirs and be some", dead.heir(1, 0), 1);
    }

    private static void promise5() {
        Check.sentence(5, "Tells a persecution.");
        Restitutory x = people(4);
        Check.due("before", x.isPersecuted(3, 4, 1950), false);
        x.persecution(3, 4, 1950, 1950);
        Check.due("then", x.isPersecuted(3, 4, 1950), true);
        Check.sentence(5, "- `from`: 1900 to 2100");
        for (int from : Edges.inside(1900, 2100)) {
            Check.due("from " + from, people(0).persecution(0, 0, from, 2100), 1);
        }
        for (int from : Edges.outside(1900, 2100)) {
            Check.dueThrow("from " + from, Check.ARGUMENT, () -> people(0).persecution(0, 0, from, 2100));
            Check.dueThrow("from and to " + from, Check.ARGUMENT, () -> people(0).persecution(0, 0, from, from));
        }
        Check.sentence(5, "- `to`: from to 2100");
        for (int from : new int[] {1900, 1901, 1950, 2099, 2100}) {
            for (int to : Edges.inside(from, 2100)) {
                Check.due(from + " to " + to, people(0).persecution(0, 0, from, to), 1);
            }
            for (int to : Edges.outside(from, 2100)) {
                Check.dueThrow(from + " to " + to, Check.ARGUMENT, () -> people(0).persecution(0, 0, from, to));
            }
        }
        Check.sentence(5, "Returns how many there are then.");
        Restitutory y = people(0);
        for (int i = 1; i <= 20; i++) {
            Check.due("of 20", y.persecution(i % 4, i % 5, 1900, 1900 + i), i);
        }
        Restitutory same = people(0);
        for (int i = 1; i <= 20; i++) {
            Check.due("of 20 that are the same", same.persecution(0, 0, 1900, 1900), i);
        }
    }

    private static void promise5Refused() {
        Check.sentence(5, "Throws `IndexOutOfBoundsException` as told, of the group or the land");
        for (int group : Edges.outside(0, 3)) {
            Check.dueThrow("group " + group, Check.INDEX, () -> people(0).persecution(group, 0, 1900, 1900));
        }
        for (int land : Edges.outside(0, 4)) {
            Check.dueThrow("land " + land, Check.INDEX, () -> people(0).persecution(0, land, 1900, 1900));
        }
        for (int i = 0; i < 20; i++) {
            Check.due("each group and land", people(0).persecution(i / 5, i % 5, 1900, 1900), 1);
        }
        Check.sentence(5, "Throws `IllegalArgumentException` if from or to is out of range");
        int[][] wrong = {{1899, 1899}, {1899, 1900}, {1899, 2100}, {1899, 2101}, {2101, 2101}, {2101, 2100}, {2100, 2101},
            {1900, 2101}, {1900, 1899}, {2100, 2099}, {1950, 1949}, {MIN, MAX}, {MAX, MIN}, {1900, MIN}, {MAX, 2100}};
        for (int[] years : wrong) {
            Check.dueThrow(years[0] + " to " + years[1], Check.ARGUMENT,
                () -> people(0).persecution(3, 4, years[0], years[1]));
        }
        Check.sentence(5, "Throws `IllegalStateException` if there are 20");
        Restitutory full = people(1);
        for (int i = 1; i < 20; i++) {
            full.persecution(0, 0, 1900, 1900);
        }
        Check.due("19", full.persecution(0, 0, 1910, 1910), 20);
        Check.dueThrow("20", Check.STATE, () -> full.persecution(0, 1, 1900, 2100));
        Check.dueThrow("20, and the same once more", Check.STATE, () -> full.persecution(0, 0, 1900, 1900));
        Check.due("the 20th counts", full.isPersecuted(0, 0, 1910), true);
        Check.due("the 21st does not", full.isPersecuted(0, 1, 1900), false);
    }

    private static void promise6() {
        Check.sentence(6, "Tells after how many years a land knows good faith.");
        for (int land = 0; land < 5; land++) {
            Restitutory x = people(3);
            x.thing(0, 0);
            x.station(0, 0, 1, 0, 1900);
            x.station(0, 1, 3, 0, 1900);
            x.station(0, 2, 0, land, 1900);
            x.now(1910);
            x.faith(land, 11);
            Check.due("not yet, in " + land, x.owner(0), 0);
            x.faith(land, 10);
            Check.due("just then, in " + land, x.owner(0), 2);
        }
        Check.sentence(6, "- `years`: 1 to 60, or 0 if it does not");
        for (int years : Edges.inside(0, 60)) {
            Check.due(years + " years", people(0).faith(0, years), 0);
        }
        for (int years : Edges.outside(0, 60)) {
            Check.dueThrow(years + " years", Check.ARGUMENT, () -> people(0).faith(0, years));
        }
        Check.sentence(6, "Returns the years before.");
        Restitutory y = people(0);
        for (int years = 1; years <= 56; years++) {
            for (int land = 0; land < 5; land++) {
                Check.due("in " + land, y.faith(land, years + land), years == 1 ? 0 : years + land - 1);
            }
        }
        Restitutory z = people(0);
        z.faith(2, 60);
        Check.due("the same again", z.faith(2, 60), 60);
        Check.due("60 before", z.faith(2, 0), 60);
        Check.due("none before", z.faith(2, 1), 0);
        Check.due("1 before", z.faith(2, 60), 1);
        Check.sentence(6, "Throws `IndexOutOfBoundsException` as told");
        for (int land : Edges.outside(0, 4)) {
            Check.dueThrow("land " + land, Check.INDEX, () -> people(0).faith(land, 1));
            Check.dueThrow("land " + land + ", 61 years", Check.INDEX, () -> people(0).faith(land, 61));
        }
        Check.sentence(6, "Throws `IllegalArgumentException` if years is out of range");
        for (int land = 0; land < 5; land++) {
            int in = land;
            Restitutory w = people(0);
            w.faith(in, 30);
            Check.dueThrow("-1 years in " + in, Check.ARGUMENT, () -> w.faith(in, -1));
            Check.dueThrow("61 years in " + in, Check.ARGUMENT, () -> w.faith(in, 61));
            Check.due("it stays as it was", w.faith(in, 0), 30);
        }
    }

    private static void promise7() {
        Check.sentence(7, "Tells which year it is.");
        Restitutory x = people(1);
        x.thing(0, 0);
        x.now(1950);
        Check.dueThrow("1951 is not yet", Check.ARGUMENT, () -> x.station(0, 0, 0, 0, 1951));
        Check.due("1950 is", x.station(0, 0, 0, 0, 1950), 0);
        Check.sentence(7, "- `year`: now to 2100");
        for (int now : new int[] {1900, 1901, 1999, 2099, 2100}) {
            for (int year : Edges.inside(now, 2100)) {
                Restitutory y = people(0);
                y.now(now);
                Check.due("from " + now + " to " + year, y.now(year), now);
            }
            for (int year : Edges.outside(now, 2100)) {
                Restitutory y = people(0);
                y.now(now);
                Check.dueThrow("from " + now + " to " + year, Check.ARGUMENT, () -> y.now(year));
            }
        }
        Check.sentence(7, "Returns the one before.");
        Restitutory z = people(0);
        for (int year = 1900; year <= 2100; year++) {
            Check.due("ahead of " + year, z.now(year), year == 1900 ? 1900 : year - 1);
            Check.due("twice " + year, z.now(year), year);
        }
        Check.sentence(7, "Throws `IllegalArgumentException` if year is out of range");
        Restitutory w = people(0);
        w.now(2000);
        Check.dueThrow("a year back", Check.ARGUMENT, () -> w.now(1999));
        Check.dueThrow("the first year", Check.ARGUMENT, () -> w.now(1900));
        Check.dueThrow("beyond the last one", Check.ARGUMENT, () -> w.now(2101));
        Check.due("it stays as it was", w.now(2000), 2000);
    }

    private static void promise13() {
        Check.sentence(13, "Returns whether a person is persecuted in a land and a year.");
        for (int land = 0; land < 5; land++) {
            Restitutory x = people(2);
            x.persecution(1, land, 1933, 1945);
            for (int year : Edges.inside(1925, 1955)) {
                for (int in = 0; in < 5; in++) {
                    boolean dark = in == land && year >= 1933 && year <= 1945;
                    Check.due("in " + in + ", " + year, x.isPersecuted(1, in, year), dark);
                    Check.due("the other one", x.isPersecuted(0, in, year), false);
                }
            }
        }
        Restitutory dead = people(2);
        dead.persecution(1, 0, 1900, 1900);
        dead.die(1);
        Check.due("dead or not", dead.isPersecuted(1, 0, 1900), true);
        Check.sentence(13, "- `year`: 1900 to 2100");
        Restitutory all = people(1);
        all.persecution(0, 0, 1900, 2100);
        for (int year : Edges.inside(1900, 2100)) {
            Check.due("the year " + year, all.isPersecuted(0, 0, year), true);
            Check.due("the year " + year, all.isPersecuted(0, 1, year), false);
        }
        Check.sentence(13, "Throws `IndexOutOfBoundsException` as told, of the person or the land");
        for (int count : new int[] {0, 1, 12}) {
            for (int person : Edges.outside(0, count - 1)) {
                Check.dueThrow("person " + person, Check.INDEX, () -> people(count).isPersecuted(person, 0, 1900));
                Check.dueThrow("and no year", Check.INDEX, () -> people(count).isPersecuted(person, 0, 1899));
            }
        }
        for (int land : Edges.outside(0, 4)) {
            Check.dueThrow("land " + land, Check.INDEX, () -> people(1).isPersecuted(0, land, 1900));
            Check.dueThrow("land " + land + ", no year", Check.INDEX, () -> people(1).isPersecuted(0, land, 2101));
        }
        Check.sentence(13, "Throws `IllegalArgumentException` if year is out of range");
        for (int year : Edges.outside(1900, 2100)) {
            Check.dueThrow("year " + year, Check.ARGUMENT, () -> people(1).isPersecuted(0, 4, year));
        }
    }

    private static void promise14() {
        Check.sentence(14, "Returns the living heir of a person, also if that one is not dead; by heirs of heirs that may be"
            + " the person.");
        Restitutory x = people(4);
        x.heir(0, 1);
        x.heir(1, 2);
        x.heir(2, 3);
        Check.due("of somebody who is living", x.heirOf(0), 1);
        x.die(1);
        Check.due("living, the second generation", x.heirOf(0), 2);
        x.die(2);
        Check.due("living, the third", x.heirOf(0), 3);
        x.die(3);
        Check.due("living, all of them dead", x.heirOf(0), -1);
        x.heir(3, 0);
        Check.due("the person would be the fourth", x.heirOf(0), -1);
        Check.due("the person is the third", x.heirOf(1), 0);
        Check.sentence(14, "Returns the heir; NONE without one.");
        for (int count = 1; count <= 12; count++) {
            for (int person = 0; person < count; person++) {
                Check.due("nobody is an heir by being there", people(count).heirOf(person), -1);
            }
        }
        Restitutory last = people(12);
        last.heir(0, 11);
        Check.due("the highest number", last.heirOf(0), 11);
        last.die(11);
        Check.due("no living one", last.heirOf(0), -1);
        last.heir(11, 0);
        Check.due("the lowest number", last.heirOf(11), 0);
        Check.sentence(14, "Throws `IndexOutOfBoundsException` as told");
        for (int count : new int[] {0, 1, 11, 12}) {
            for (int person : Edges.outside(0, count - 1)) {
                Check.dueThrow("person " + person + " of " + count, Check.INDEX, () -> people(count).heirOf(person));
            }
        }
    }

    private static void promise14Circles() {
        Check.sentence(14, "Returns the living heir of a person, also if that one is not dead; by heirs of heirs that may be"
            + " the person.");
        for (int size = 2; size <= 12; size++) {
            Restitutory ring = people(size);
            for (int i = 0; i < size; i++) {
                ring.heir(i, (i + 1) % size);
            }
            for (int i = 1; i < size; i++) {
                ring.die(i);
            }
            for (int i = 0; i < size; i++) {
                int steps = i == 0 ? size : size - i;
                Check.due("a ring of " + size + ", " + i, ring.heirOf(i), steps <= 3 ? 0 : -1);
            }
            ring.die(0);
            for (int i = 0; i < size; i++) {
                Check.due("all of a ring of " + size + " dead", ring.heirOf(i), -1);
            }
        }
        for (int living = 0; living < 12; living++) {
            Restitutory all = people(12);
            for (int i = 0; i < 132; i++) {
                all.heir(i / 11, (i / 11 + 1 + i % 11) % 12);
            }
            for (int i = 0; i < 12; i++) {
                if (i != living) {
                    all.die(i);
                }
            }
            for (int i = 0; i < 12; i++) {
                Check.due("all are heirs of all, one lives", all.heirOf(i), living);
            }
            all.die(living);
            for (int i = 0; i < 12; i++) {
                Check.due("all are heirs of all, none lives", all.heirOf(i), -1);
            }
        }
    }
}
