/** Promises 1 to 7, 13 and 14: a new object, people, heirs and laws. */
public final class PeopleTest {
    private static final int MIN = Integer.MIN_VALUE;
    private static final int MAX = Integer.MAX_VALUE;

    public static void main(String[] args) {
        promise1NewObject();
        promise2Person();
        promise3Die();
        promise4Heir();
        promise4HeirOrderOfExceptions();
        promise5Persecution();
        promise6Faith();
        promise7Now();
        promise13IsPersecuted();
        promise14HeirOf();
        promise14Generations();
        promise14Circles();
        Check.end();
    }

    private static Restitutory withPeople(int count) {
        Restitutory x = new Restitutory();
        for (int i = 0; i < count; i++) {
            x.person(0);
        }
        return x;
    }

    private static void promise1NewObject() {
        Restitutory x = new Restitutory();
        Check.dueThrow("1: no person", Check.INDEX, () -> x.heirOf(0));
        Check.dueThrow("1: no thing", Check.INDEX, () -> x.owner(0));
        for (int land = 0; land < 5; land++) {
            Check.due("1: no good faith in " + land, x.faith(land, 0), 0);
        }
        Check.due("1: the year", x.now(1900), 1900);
        Check.due("1: the first person", x.person(2), 0);
        for (int year = 1900; year <= 2100; year += 50) {
            Check.due("1: not persecuted in " + year, x.isPersecuted(0, 0, year), false);
        }
        Check.due("1: the first persecution", x.persecution(0, 0, 1900, 1900), 1);
        Check.due("1: the first thing", x.thing(0, 0), 0);
        Restitutory y = new Restitutory();
        Check.dueThrow("1: objects share nothing", Check.INDEX, () -> y.heirOf(0));
        Check.due("1: persecutions are not shared", y.persecution(0, 0, 1900, 1900), 1);
    }

    private static void promise2Person() {
        Restitutory x = new Restitutory();
        for (int group : new int[] {-1, 4, MIN, MAX}) {
            Check.dueThrow("2: person(" + group + ")", Check.INDEX, () -> x.person(group));
        }
        for (int i = 0; i < 12; i++) {
            Check.due("2: person " + i, x.person(i % 4), i);
        }
        Check.dueThrow("2: a 13th person", Check.STATE, () -> x.person(0));
        Check.dueThrow("2: a 13th person of no group", Check.INDEX, () -> x.person(4));
        Check.dueThrow("2: still 12", Check.INDEX, () -> x.heirOf(12));
        Check.due("2: the last one is there", x.heirOf(11), -1);
        for (int group = 0; group < 4; group++) {
            x.persecution(group, group, 1900, 1900);
            for (int i = 0; i < 12; i++) {
                Check.due("2: the group of " + i, x.isPersecuted(i, group, 1900), i % 4 == group);
            }
        }
    }

    private static void promise3Die() {
        Restitutory x = withPeople(2);
        for (int person : new int[] {-1, 2, 12, MIN, MAX}) {
            Check.dueThrow("3: die(" + person + ")", Check.INDEX, () -> x.die(person));
        }
        x.heir(0, 1);
        Check.due("3: living at first", x.heirOf(0), 1);
        x.die(1);
        Check.due("3: dead then", x.heirOf(0), -1);
        Check.dueThrow("3: dead already", Check.STATE, () -> x.die(1));
        x.die(0);
        Check.dueThrow("3: the other one too", Check.STATE, () -> x.die(0));
    }

    private static void promise4Heir() {
        Restitutory x = withPeople(12);
        for (int i = 0; i < 11; i++) {
            Check.due("4: heir " + i, x.heir(11, i), i + 1);
        }
        for (int i = 0; i < 11; i++) {
            int heir = i;
            Check.dueThrow("4: told before " + i, Check.STATE, () -> x.heir(11, heir));
        }
        x.die(3);
        x.die(4);
        Check.due("4: the dead may be heirs and have heirs", x.heir(3, 4), 1);
        for (int i = 0; i < 11; i++) {
            int due = i < 3 ? i : i < 5 ? 5 : i;
            Check.due("4: the order of the heirs", x.heirOf(11), due);
            if (i != 3 && i != 4) {
                x.die(i);
            }
        }
        Check.due("4: all heirs dead", x.heirOf(11), -1);
        Check.due("4: the other way round it was not told", x.heir(0, 11), 1);
        Check.due("4: one of them has an heir", x.heirOf(11), 11);
    }

    private static void promise4HeirOrderOfExceptions() {
        Restitutory x = withPeople(2);
        Check.dueThrow("4: heir(-1, 0)", Check.INDEX, () -> x.heir(-1, 0));
        Check.dueThrow("4: heir(0, -1)", Check.INDEX, () -> x.heir(0, -1));
        Check.dueThrow("4: heir(2, 0)", Check.INDEX, () -> x.heir(2, 0));
        Check.dueThrow("4: heir(0, 2)", Check.INDEX, () -> x.heir(0, 2));
        Check.dueThrow("4: both the same, and not there", Check.INDEX, () -> x.heir(2, 2));
        Check.dueThrow("4: both the same, and not there", Check.INDEX, () -> x.heir(-1, -1));
        Check.dueThrow("4: both the same", Check.ARGUMENT, () -> x.heir(1, 1));
        Check.due("4: throwing told nothing", x.heir(1, 0), 1);
        Check.dueThrow("4: told", Check.STATE, () -> x.heir(1, 0));
        Check.dueThrow("4: both the same again", Check.ARGUMENT, () -> x.heir(1, 1));
    }

    private static void promise5Persecution() {
        Restitutory x = withPeople(1);
        Check.dueThrow("5: group -1", Check.INDEX, () -> x.persecution(-1, 0, 1900, 1900));
        Check.dueThrow("5: group 4", Check.INDEX, () -> x.persecution(4, 0, 1900, 1900));
        Check.dueThrow("5: land -1", Check.INDEX, () -> x.persecution(0, -1, 1900, 1900));
        Check.dueThrow("5: land 5", Check.INDEX, () -> x.persecution(0, 5, 1900, 1900));
        Check.dueThrow("5: land 5 and a wrong year", Check.INDEX, () -> x.persecution(0, 5, 1899, 1900));
        Check.dueThrow("5: from 1899", Check.ARGUMENT, () -> x.persecution(0, 0, 1899, 1900));
        Check.dueThrow("5: from 2101", Check.ARGUMENT, () -> x.persecution(0, 0, 2101, 2101));
        Check.dueThrow("5: to 2101", Check.ARGUMENT, () -> x.persecution(0, 0, 2100, 2101));
        Check.dueThrow("5: to below from", Check.ARGUMENT, () -> x.persecution(0, 0, 1950, 1949));
        Check.dueThrow("5: to far below", Check.ARGUMENT, () -> x.persecution(0, 0, 1950, MIN));
        Check.due("5: throwing told nothing", x.isPersecuted(0, 0, 1950), false);
        Check.due("5: all years, whatever year it is now", x.persecution(3, 4, 1900, 2100), 1);
        Check.due("5: one year", x.persecution(3, 4, 2100, 2100), 2);
        for (int i = 3; i <= 20; i++) {
            Check.due("5: the same one counts again", x.persecution(3, 4, 1900, 2100), i);
        }
        Check.dueThrow("5: a 21st", Check.STATE, () -> x.persecution(0, 0, 1900, 2100));
        Check.dueThrow("5: a 21st to below from", Check.ARGUMENT, () -> x.persecution(0, 0, 1901, 1900));
        Check.dueThrow("5: a 21st of no group", Check.INDEX, () -> x.persecution(-1, 0, 1901, 1900));
        Check.due("5: the 21st was not told", x.isPersecuted(0, 0, 1950), false);
    }

    private static void promise6Faith() {
        Restitutory x = new Restitutory();
        Check.dueThrow("6: land -1", Check.INDEX, () -> x.faith(-1, 1));
        Check.dueThrow("6: land 5", Check.INDEX, () -> x.faith(5, 1));
        Check.dueThrow("6: land 5 and 61 years", Check.INDEX, () -> x.faith(5, 61));
        Check.dueThrow("6: 61 years", Check.ARGUMENT, () -> x.faith(0, 61));
        Check.dueThrow("6: -1 years", Check.ARGUMENT, () -> x.faith(0, -1));
        for (int land = 0; land < 5; land++) {
            Check.due("6: at first", x.faith(land, 60 - land), 0);
        }
        for (int land = 0; land < 5; land++) {
            Check.due("6: each land has its own", x.faith(land, 1), 60 - land);
        }
        Check.dueThrow("6: 61 years again", Check.ARGUMENT, () -> x.faith(2, 61));
        Check.due("6: throwing changed nothing", x.faith(2, 0), 1);
        Check.due("6: not any more", x.faith(2, 60), 0);
    }

    private static void promise7Now() {
        Restitutory x = new Restitutory();
        Check.dueThrow("7: now(1899)", Check.ARGUMENT, () -> x.now(1899));
        Check.dueThrow("7: now(2101)", Check.ARGUMENT, () -> x.now(2101));
        Check.due("7: the same year", x.now(1900), 1900);
        Check.due("7: a later one", x.now(1950), 1900);
        Check.dueThrow("7: not back", Check.ARGUMENT, () -> x.now(1949));
        Check.dueThrow("7: far back", Check.ARGUMENT, () -> x.now(MIN));
        Check.dueThrow("7: far on", Check.ARGUMENT, () -> x.now(MAX));
        Check.due("7: throwing changed nothing", x.now(2100), 1950);
        Check.due("7: the last year", x.now(2100), 2100);
    }

    private static void promise13IsPersecuted() {
        Restitutory x = new Restitutory();
        x.person(1);
        x.person(2);
        x.persecution(1, 0, 1933, 1945);
        x.persecution(1, 3, 1950, 1950);
        x.persecution(2, 0, 2000, 2100);
        x.persecution(1, 0, 1940, 1947);
        for (int year = 1900; year <= 2100; year++) {
            boolean dark = year >= 1933 && year <= 1947;
            Check.due("13: in land 0, " + year, x.isPersecuted(0, 0, year), dark);
            Check.due("13: in land 3, " + year, x.isPersecuted(0, 3, year), year == 1950);
            Check.due("13: in land 1, " + year, x.isPersecuted(0, 1, year), false);
            Check.due("13: the other group, " + year, x.isPersecuted(1, 0, year), year >= 2000);
        }
        x.die(0);
        Check.due("13: also of the dead", x.isPersecuted(0, 0, 1945), true);
        Check.dueThrow("13: person -1", Check.INDEX, () -> x.isPersecuted(-1, 0, 1900));
        Check.dueThrow("13: person 2", Check.INDEX, () -> x.isPersecuted(2, 0, 1900));
        Check.dueThrow("13: land -1", Check.INDEX, () -> x.isPersecuted(0, -1, 1900));
        Check.dueThrow("13: land 5", Check.INDEX, () -> x.isPersecuted(0, 5, 1900));
        Check.dueThrow("13: land 5 and a wrong year", Check.INDEX, () -> x.isPersecuted(0, 5, 1899));
        Check.dueThrow("13: 1899", Check.ARGUMENT, () -> x.isPersecuted(0, 0, 1899));
        Check.dueThrow("13: 2101", Check.ARGUMENT, () -> x.isPersecuted(0, 0, 2101));
    }

    private static void promise14HeirOf() {
        Restitutory x = withPeople(6);
        for (int person : new int[] {-1, 6, 12, MIN, MAX}) {
            Check.dueThrow("14: heirOf(" + person + ")", Check.INDEX, () -> x.heirOf(person));
        }
        Check.due("14: no heir", x.heirOf(0), -1);
        x.heir(0, 4);
        x.heir(0, 2);
        Check.due("14: also of the living, in the order told", x.heirOf(0), 4);
        x.die(0);
        Check.due("14: of the dead", x.heirOf(0), 4);
        x.heir(4, 5);
        Check.due("14: the living heir comes ahead of its heirs", x.heirOf(0), 4);
        x.die(4);
        Check.due("14: the heir of a dead one ahead of the next heir", x.heirOf(0), 5);
        x.die(5);
        Check.due("14: the next heir", x.heirOf(0), 2);
        x.heir(5, 3);
        Check.due("14: the heir's heir's heir", x.heirOf(0), 3);
    }

    private static void promise14Generations() {
        Restitutory x = withPeople(6);
        for (int i = 0; i < 4; i++) {
            x.heir(i, i + 1);
            x.die(i);
        }
        Check.due("14: not through four generations", x.heirOf(0), -1);
        Check.due("14: through three", x.heirOf(1), 4);
        Check.due("14: through two", x.heirOf(2), 4);
        Check.due("14: through one", x.heirOf(3), 4);
        x.heir(2, 5);
        Check.due("14: another one within three", x.heirOf(0), 5);
        Check.due("14: the first one told stays ahead", x.heirOf(1), 4);
    }

    private static void promise14Circles() {
        Restitutory x = withPeople(3);
        x.heir(0, 1);
        x.heir(1, 0);
        x.die(1);
        Check.due("14: by heirs of heirs the person", x.heirOf(0), 0);
        Check.due("14: the other one of the circle", x.heirOf(1), 0);
        x.die(0);
        Check.due("14: a circle of the dead", x.heirOf(0), -1);
        x.heir(0, 2);
        Check.due("14: out of the circle", x.heirOf(1), 2);
        Restitutory all = withPeople(12);
        for (int i = 0; i < 12; i++) {
            for (int j = 0; j < 12; j++) {
                if (i != j) {
                    all.heir(i, j);
                }
            }
            all.die(i);
        }
        for (int i = 0; i < 12; i++) {
            Check.due("14: all are heirs of all, and dead", all.heirOf(i), -1);
        }
    }
}
