import java.util.ArrayList;
import java.util.List;
import java.util.function.Consumer;

/**
 * The exceptions' terms, for every call of the face: all ways to put right and wrong arguments together, in
 * an object with room and in a full one. What is thrown is found by the document's rule alone; that it
 * changed nothing, by all answers of the object beside those of a twin that was not called.
 */
public final class RefusalsTest {
    private static final int[] NUMBERS = {-1, 0, 1, 2, 3, 4, 9, 10, 11, 12, Integer.MIN_VALUE, Integer.MAX_VALUE};
    private static final int[] SHORT = {-1, 0, 1, 4, 10, 12};
    private static final int[] GROUPS = {-1, 0, 3, 4};
    private static final int[] LANDS = {-1, 0, 4, 5};
    private static final int[] YEARS = {1899, 1900, 1949, 1950, 1951, 2100, 2101};
    private static final boolean[] BOTH = {true, false};

    private final boolean full;
    private final int people;
    private final int things;
    private final int now;
    private final String untouched;

    private RefusalsTest(boolean full) {
        this.full = full;
        this.people = full ? 12 : 4;
        this.things = full ? 10 : 4;
        this.now = full ? 2100 : 1950;
        this.untouched = answers(world());
    }

    public static void main(String[] args) {
        for (boolean full : BOTH) {
            RefusalsTest test = new RefusalsTest(full);
            Check.term("IndexOutOfBoundsException: there is no such person, group, land, thing, or station.");
            Check.term("IllegalArgumentException: another argument is out of its range.");
            Check.term("IllegalStateException: as the method tells.");
            Check.term("If several apply, the one that is named first in the throws clause is thrown; a call that throws"
                + " changes nothing.");
            test.peopleAndLaws();
            test.thingsAndMarks();
            test.stations();
            test.rebuttalsAndSettlements();
            test.questionsOfPeople();
            test.questionsOfThings();
        }
        Check.end();
    }

    /**
     * Person 1 is dead; person 0 has the heir 1 (all others, if full). Thing 0 has stations of the kinds 0 to 3
     * (of all, 8 in all, if full), thing 1 has one, the others have none.
     */
    private Restitutory world() {
        Restitutory x = new Restitutory();
        for (int i = 0; i < people; i++) {
            x.person(i % 4);
        }
        x.die(1);
        for (int i = 1; i < (full ? 12 : 2); i++) {
            x.heir(0, i);
        }
        x.heir(1, 3);
        for (int i = 0; i < (full ? 20 : 2); i++) {
            x.persecution(i % 4, i % 5, 1900 + i, 1940 + i);
        }
        x.faith(0, 10);
        x.faith(4, 60);
        x.now(now);
        for (int i = 0; i < things; i++) {
            x.thing(i * 5000, i * 100);
        }
        for (int i = 0; i < (full ? 8 : 4); i++) {
            x.station(0, i % 4, i % 6, i % 5, 1930 - i % 3);
        }
        x.station(1, 1, 0, 0, 1900);
        x.rebut(0, 0, true);
        x.settle(0, 3, true);
        return x;
    }

    // ---- all answers

    /** The questions first, then what the telling calls give back; at most some 400 calls. */
    private static String answers(Restitutory x) {
        StringBuilder all = new StringBuilder();
        for (int i = 0; i < 12; i++) {
            int n = i;
            put(all, () -> all.append(x.heirOf(n)));
            put(all, () -> all.append(x.asks(n)));
        }
        for (int i = 0; i < 60; i++) {
            int n = i;
            put(all, () -> all.append(x.isPersecuted(n / 15, n / 3 % 5, n % 3 == 0 ? 1900 : n % 3 == 1 ? 1950 : 2100)));
        }
        for (int i = 0; i < 10; i++) {
            int n = i;
            put(all, () -> all.append(x.likest(n)));
            put(all, () -> all.append(x.likeness(0, n)));
            put(all, () -> all.append(x.holder(n)));
            put(all, () -> all.append(x.owner(n)));
            put(all, () -> all.append(x.ownerAnew(n)));
            put(all, () -> all.append(x.stationAt(n, 0)));
        }
        for (int i = 0; i < 9; i++) {
            int n = i;
            put(all, () -> all.append(x.stationAt(0, n)));
            put(all, () -> all.append(x.isLoss(0, n)));
            put(all, () -> all.append(x.stationAt(1, n)));
            put(all, () -> all.append(x.isLoss(1, n)));
        }
        tellings(x, all);
        return all.toString();
    }

    private static void tellings(Restitutory x, StringBuilder all) {
        for (int i = 0; i < 9; i++) {
            int n = i;
            put(all, () -> all.append(x.rebut(0, n, false)));
            put(all, () -> all.append(x.settle(0, n, false)));
            put(all, () -> all.append(x.rebut(1, n, true)));
            put(all, () -> all.append(x.settle(1, n, true)));
        }
        for (int i = 0; i < 5; i++) {
            int n = i;
            put(all, () -> all.append(x.faith(n, 0)));
            put(all, () -> all.append(x.station(n, 0, 1, n, 1900)));
        }
        for (int i = 0; i < 16; i++) {
            int n = i;
            put(all, () -> all.append(x.mark(0, n, true)));
            put(all, () -> all.append(x.mark(3, n, false)));
        }
        for (int i = 0; i < 12; i++) {
            int n = i;
            put(all, () -> all.append(x.heir(0, n)));
            put(all, () -> all.append(x.heir(n, 0)));
            put(all, () -> x.die(n));
        }
        put(all, () -> all.append(x.persecution(0, 0, 1900, 1900)));
        put(all, () -> all.append(x.now(2100)));
        put(all, () -> all.append(x.thing(0, 0)));
        put(all, () -> all.append(x.person(0)));
    }

    private static void put(StringBuilder all, Runnable call) {
        String thrown = Check.thrownBy(call);
        all.append(thrown.equals("nothing") ? " " : thrown);
    }

    // ---- what is due

    private void due(String what, boolean index, boolean argument, boolean state, Consumer<Restitutory> call) {
        Class<? extends RuntimeException> want = !index ? Check.INDEX : !argument ? Check.ARGUMENT
            : !state ? Check.STATE : null;
        String where = what + (full ? " in a full one" : " in one with room");
        Restitutory x = world();
        if (want == null) {
            Check.dueNoThrow(where, () -> call.accept(x));
            return;
        }
        Check.dueThrow(where, want, () -> call.accept(x));
        Check.due(where + ", all answers then", answers(x), untouched);
    }

    /** A question changes nothing either when it is answered. */
    private void dueQuestion(String what, boolean index, boolean argument, Consumer<Restitutory> call) {
        due(what, index, argument, true, call);
        if (index && argument) {
            Restitutory x = world();
            call.accept(x);
            Check.due(what + " asked, all answers then", answers(x), untouched);
        }
    }

    private static boolean in(int value, int least, int most) {
        return value >= least && value <= most;
    }

    private boolean isPerson(int number) {
        return in(number, 0, people - 1);
    }

    private boolean isThing(int number) {
        return in(number, 0, things - 1);
    }

    private int stationCount(int thing) {
        return thing == 0 ? full ? 8 : 4 : thing == 1 ? 1 : 0;
    }

    private boolean isStation(int thing, int station) {
        return isThing(thing) && in(station, 0, stationCount(thing) - 1);
    }

    // ---- the calls

    private void peopleAndLaws() {
        for (int a : NUMBERS) {
            due("person(" + a + ")", in(a, 0, 3), true, !full, x -> x.person(a));
            due("die(" + a + ")", isPerson(a), true, a != 1, x -> x.die(a));
            for (int b : NUMBERS) {
                boolean told = a == 0 && (full || b == 1) || a == 1 && b == 3;
                due("heir(" + a + ", " + b + ")", isPerson(a) && isPerson(b), a != b, !told, x -> x.heir(a, b));
            }
        }
        for (int group : GROUPS) {
            for (int land : LANDS) {
                for (int from : YEARS) {
                    for (int to : YEARS) {
                        due("persecution(" + group + ", " + land + ", " + from + ", " + to + ")",
                            in(group, 0, 3) && in(land, 0, 4), in(from, 1900, 2100) && in(to, from, 2100), !full,
                            x -> x.persecution(group, land, from, to));
                    }
                }
            }
        }
        for (int land : NUMBERS) {
            for (int years : new int[] {-1, 0, 1, 60, 61, Integer.MAX_VALUE, Integer.MIN_VALUE}) {
                due("faith(" + land + ", " + years + ")", in(land, 0, 4), in(years, 0, 60), true,
                    x -> x.faith(land, years));
            }
        }
        for (int year : YEARS) {
            due("now(" + year + ")", true, in(year, now, 2100), true, x -> x.now(year));
        }
    }

    private void thingsAndMarks() {
        for (int marks : new int[] {-1, 0, 65535, 65536, Integer.MIN_VALUE}) {
            for (int size : new int[] {-1, 0, 1000, 1001, Integer.MAX_VALUE}) {
                due("thing(" + marks + ", " + size + ")", true, in(marks, 0, 65535) && in(size, 0, 1000), !full,
                    x -> x.thing(marks, size));
            }
        }
        for (int thing : NUMBERS) {
            for (int mark : new int[] {-1, 0, 15, 16, Integer.MAX_VALUE, Integer.MIN_VALUE}) {
                for (boolean is : BOTH) {
                    due("mark(" + thing + ", " + mark + ", " + is + ")", isThing(thing), in(mark, 0, 15), true,
                        x -> x.mark(thing, mark, is));
                }
            }
        }
    }

    private void stations() {
        List<int[]> all = new ArrayList<>();
        for (int thing : SHORT) {
            for (int party : SHORT) {
                for (int land : LANDS) {
                    for (int year : YEARS) {
                        all.add(new int[] {thing, party, land, year});
                    }
                }
            }
        }
        for (int[] a : all) {
            for (int kind : new int[] {-1, 0, 5, 6}) {
                due("station(" + a[0] + ", " + a[1] + ", " + kind + ", " + a[2] + ", " + a[3] + ")",
                    isThing(a[0]) && isPerson(a[1]) && in(a[2], 0, 4), in(kind, 0, 5) && in(a[3], 1900, now),
                    stationCount(a[0]) < 8, x -> x.station(a[0], a[1], kind, a[2], a[3]));
            }
        }
    }

    private void rebuttalsAndSettlements() {
        for (int thing : NUMBERS) {
            for (int station : NUMBERS) {
                for (boolean is : BOTH) {
                    String what = "(" + thing + ", " + station + ", " + is + ")";
                    boolean there = isStation(thing, station);
                    due("rebut" + what, there, thing == 1 || station % 6 == 0, true, x -> x.rebut(thing, station, is));
                    due("settle" + what, there, true, true, x -> x.settle(thing, station, is));
                }
            }
        }
    }

    private void questionsOfPeople() {
        for (int person : NUMBERS) {
            dueQuestion("heirOf(" + person + ")", isPerson(person), true, x -> x.heirOf(person));
            dueQuestion("asks(" + person + ")", isPerson(person), true, x -> x.asks(person));
            for (int land : LANDS) {
                for (int year : YEARS) {
                    dueQuestion("isPersecuted(" + person + ", " + land + ", " + year + ")",
                        isPerson(person) && in(land, 0, 4), in(year, 1900, 2100), x -> x.isPersecuted(person, land, year));
                }
            }
        }
    }

    private void questionsOfThings() {
        for (int thing : NUMBERS) {
            String one = "(" + thing + ")";
            dueQuestion("likest" + one, isThing(thing), true, x -> x.likest(thing));
            dueQuestion("holder" + one, isThing(thing), true, x -> x.holder(thing));
            dueQuestion("owner" + one, isThing(thing), true, x -> x.owner(thing));
            dueQuestion("ownerAnew" + one, isThing(thing), true, x -> x.ownerAnew(thing));
            for (int b : NUMBERS) {
                String two = "(" + thing + ", " + b + ")";
                dueQuestion("likeness" + two, isThing(thing) && isThing(b), true, x -> x.likeness(thing, b));
                dueQuestion("stationAt" + two, isThing(thing) && b >= 0, true, x -> x.stationAt(thing, b));
                dueQuestion("isLoss" + two, isStation(thing, b), true, x -> x.isLoss(thing, b));
            }
        }
    }
}
