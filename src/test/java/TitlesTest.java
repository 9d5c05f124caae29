/** Promises 18 to 22 with their terms: a method for each sentence, and in it the sentence's edges. */
public final class TitlesTest {
    private static final int BOUGHT = 0, GIVEN = 1, INHERITED = 2, SEIZED = 3, FORCED = 4, LEFT = 5;

    public static void main(String[] args) {
        termLoss();
        termPresumedLoss();
        termPresumedLossAhead();
        termTitleBegins();
        termTitleBySettlement();
        termTitleStaysByLoss();
        termTitleFromTheOneAhead();
        termTitleThroughAll();
        termTitleNotFromHeirs();
        termGoodFaithAlone();
        termGoodFaithYears();
        termGoodFaithUntil();
        termHolder();
        termOwner();
        promise18();
        promise19();
        promise20And21();
        promise22();
        promise22Heirs();
        promise22Refused();
        Check.end();
    }

    /** Persons 0 to 5, of the groups 0, 1, 2, 3, 0 and 1; two things without stations; the year 2100. */
    private static Restitutory ready() {
        Restitutory x = new Restitutory();
        for (int i = 0; i < 6; i++) {
            x.person(i % 4);
        }
        x.thing(0, 0);
        x.thing(0, 0);
        x.now(2100);
        return x;
    }

    /** Thing 0 comes from person 0 in 1900, and was seized by person 1 in 1901: person 0 has the title. */
    private static Restitutory seized() {
        Restitutory x = ready();
        x.station(0, 0, GIVEN, 0, 1900);
        x.station(0, 1, SEIZED, 0, 1901);
        return x;
    }

    private static void owner(String what, Restitutory x, int want) {
        Check.due(what + ", the owner", x.owner(0), want);
        Check.due(what + ", the owner anew", x.ownerAnew(0), want);
    }

    private static void termLoss() {
        Check.term("A station, but the first one, is a loss, if its kind is SEIZED, FORCED or LEFT; it is one as well, if it"
            + " is BOUGHT, the party of the one ahead is persecuted in its land and year, and it was not rebutted.");
        for (int kind = BOUGHT; kind <= LEFT; kind++) {
            Restitutory x = ready();
            x.station(0, 0, kind, 0, 1950);
            Check.due("the first one, kind " + kind, x.isLoss(0, 0), false);
            x.station(0, 1, kind, 0, 1950);
            Check.due("the first one of two, kind " + kind, x.isLoss(0, 0), false);
            Check.due("the second one, kind " + kind, x.isLoss(0, 1), kind >= SEIZED);
            x.settle(0, 1, true);
            Check.due("settled, kind " + kind, x.isLoss(0, 1), kind >= SEIZED);
            x.station(0, 2, kind, 0, 1949);
            Check.due("the first one then, kind " + kind, x.isLoss(0, 2), false);
            Check.due("the first one before, kind " + kind, x.isLoss(0, 0), kind >= SEIZED);
            for (int i = 3; i < 8; i++) {
                x.station(0, 3, kind, 4, 1950 + i);
                Check.due("station " + i + ", kind " + kind, x.isLoss(0, i), kind >= SEIZED);
            }
        }
    }

    private static void termPresumedLoss() {
        for (int kind = BOUGHT; kind <= LEFT; kind++) {
            Restitutory x = ready();
            for (int group = 0; group < 4; group++) {
                x.persecution(group, 0, 1900, 2100);
            }
            x.station(0, 0, kind, 0, 1950);
            x.station(0, 1, kind, 0, 1950);
            Check.due("dark years, the first one, kind " + kind, x.isLoss(0, 0), false);
            Check.due("dark years, kind " + kind, x.isLoss(0, 1), kind == BOUGHT || kind >= SEIZED);
            x.settle(0, 1, true);
            Check.due("settled in dark years, kind " + kind, x.isLoss(0, 1), kind == BOUGHT || kind >= SEIZED);
        }
        for (int year = 1930; year <= 1950; year++) {
            for (int land = 0; land < 5; land++) {
                Restitutory x = ready();
                x.persecution(1, 3, 1933, 1945);
                x.station(0, 1, GIVEN, 3, 1930);
                x.station(0, 0, BOUGHT, land, year);
                boolean due = land == 3 && year >= 1933 && year <= 1945;
                Check.due("bought in " + land + ", " + year, x.isLoss(0, 1), due);
                x.rebut(0, 1, true);
                Check.due("rebutted", x.isLoss(0, 1), false);
                x.rebut(0, 1, false);
                Check.due("not any more", x.isLoss(0, 1), due);
            }
        }
        Restitutory now = ready();
        now.station(0, 1, GIVEN, 0, 1940);
        now.station(0, 0, BOUGHT, 0, 1940);
        Check.due("no persecution is told", now.isLoss(0, 1), false);
        now.persecution(1, 0, 1940, 1940);
        Check.due("it was told later than the station", now.isLoss(0, 1), true);
        now.die(1);
        Check.due("the party ahead is dead", now.isLoss(0, 1), true);
    }

    private static void termPresumedLossAhead() {
        for (int seller = 0; seller < 4; seller++) {
            for (int buyer = 0; buyer < 4; buyer++) {
                for (int group = 0; group < 4; group++) {
                    Restitutory x = ready();
                    x.persecution(group, 2, 1940, 1940);
                    x.station(0, seller, BOUGHT, 2, 1939);
                    x.station(0, buyer, BOUGHT, 2, 1940);
                    Check.due(buyer + " from " + seller + ", group " + group, x.isLoss(0, 1), group == seller);
                }
            }
        }
        Restitutory x = ready();
        x.persecution(0, 0, 1940, 1940);
        x.station(0, 0, GIVEN, 0, 1940);
        x.station(0, 1, BOUGHT, 0, 1941);
        Check.due("the one ahead in the dark year, not this one", x.isLoss(0, 1), false);
        x.station(0, 2, BOUGHT, 0, 1940);
        Check.due("put in between, from person 0", x.isLoss(0, 2), true);
        x.station(0, 3, BOUGHT, 0, 1940);
        Check.due("behind it in the same year, from person 2", x.isLoss(0, 3), false);
        x.station(0, 0, GIVEN, 0, 1940);
        x.station(0, 3, BOUGHT, 0, 1940);
        Check.due("from person 0 again", x.isLoss(0, 5), true);
        x.station(0, 4, BOUGHT, 0, 1939);
        Check.due("the first one of all", x.isLoss(0, 6), false);
        Check.due("given, from a persecuted one", x.isLoss(0, 0), false);
        Check.due("as before", x.isLoss(0, 2), true);
    }

    private static void termTitleBegins() {
        Check.term("The title of a thing goes through its stations in their order, beginning with the party of the first"
            + " one.");
        for (int kind = BOUGHT; kind <= LEFT; kind++) {
            Restitutory x = ready();
            x.persecution(3, 0, 1900, 2100);
            x.station(0, 3, kind, 0, 1950);
            owner("the only one, kind " + kind, x, 3);
            x.settle(0, 0, true);
            owner("the only one, settled", x, 3);
            x.settle(0, 0, false);
            owner("the only one, not settled", x, 3);
            x.station(0, 4, SEIZED, 0, 1950);
            owner("a loss behind it", x, 3);
            x.station(0, 5, SEIZED, 0, 1949);
            owner("a new first one, kind " + kind, x, kind <= INHERITED ? 3 : 5);
            x.station(0, 2, GIVEN, 0, 1949);
            owner("behind the new first one, ahead of kind " + kind, x, kind <= INHERITED ? 3 : 2);
        }
        Restitutory eight = ready();
        for (int i = 0; i < 8; i++) {
            eight.station(0, i % 6, i == 0 ? LEFT : GIVEN, 0, 1950 - i % 2);
        }
        // In their order: 1, 3, 5, 7 of 1949, then 0, 2, 4, 6 of 1950; number 0 is a loss.
        owner("eight of two years", eight, 1);
        eight.settle(0, 0, true);
        owner("the loss among eight settled", eight, 0);
    }

    private static void termTitleBySettlement() {
        Check.term("At each other one it goes to that party, if the station was settled; otherwise it stays, if the station"
            + " is a loss; otherwise it goes to that party, if the party of the one ahead has the title, dead or not,"
            + " heirs not counting here; otherwise just if the station is BOUGHT, its land knows good faith after so many"
            + " years, 1 to 60, and so many years or more are between it and the next one, or now, if it is the last.");
        for (int kind = BOUGHT; kind <= LEFT; kind++) {
            Restitutory x = seized();
            x.persecution(1, 0, 1900, 2100);
            x.station(0, 2, kind, 0, 1950);
            owner("from one without the title, kind " + kind, x, 0);
            x.settle(0, 2, true);
            owner("settled, kind " + kind, x, 2);
            x.station(0, 3, LEFT, 0, 1960);
            owner("a loss behind it, kind " + kind, x, 2);
            x.settle(0, 2, false);
            owner("not settled any more, kind " + kind, x, 0);
            x.settle(0, 3, true);
            owner("the last one settled, kind " + kind, x, 3);
            x.settle(0, 0, true);
            owner("the first one settled too", x, 3);
            x.settle(0, 1, true);
            owner("all but one settled", x, 3);
        }
        Restitutory back = seized();
        back.station(0, 0, SEIZED, 0, 1910);
        back.settle(0, 1, true);
        owner("settled, then taken back", back, 1);
        back.settle(0, 2, true);
        owner("that settled as well", back, 0);
        Restitutory dead = seized();
        dead.heir(1, 5);
        dead.settle(0, 1, true);
        dead.die(1);
        owner("a settlement with somebody who dies", dead, 5);
        dead.settle(0, 1, false);
        owner("and not any more", dead, 0);
        dead.settle(0, 1, true);
        owner("a settlement with somebody dead", dead, 5);
    }

    private static void termTitleStaysByLoss() {
        for (int kind : new int[] {SEIZED, FORCED, LEFT, BOUGHT}) {
            Restitutory x = ready();
            x.persecution(0, 0, 1950, 1950);
            x.station(0, 0, GIVEN, 0, 1900);
            x.station(0, 1, kind, 0, 1950);
            owner("from the one with the title, kind " + kind, x, 0);
            x.faith(0, 1);
            owner("good faith does not help a loss, kind " + kind, x, 0);
            x.station(0, 1, GIVEN, 0, 1960);
            owner("to oneself, kind " + kind, x, 0);
            x.station(0, 0, kind, 0, 1970);
            owner("back to the one with the title, kind " + kind, x, 0);
        }
        Restitutory presumed = ready();
        presumed.persecution(0, 0, 1950, 1950);
        presumed.station(0, 0, GIVEN, 0, 1900);
        presumed.station(0, 1, BOUGHT, 0, 1950);
        presumed.rebut(0, 1, true);
        owner("rebutted", presumed, 1);
        presumed.rebut(0, 1, false);
        owner("not rebutted any more", presumed, 0);
        presumed.station(0, 2, GIVEN, 0, 1949);
        owner("not from the persecuted one any more", presumed, 1);
    }

    private static void termTitleFromTheOneAhead() {
        for (int kind : new int[] {BOUGHT, GIVEN, INHERITED}) {
            Restitutory x = ready();
            x.station(0, 0, GIVEN, 0, 1900);
            x.station(0, 1, kind, 0, 1900);
            owner("of the same year, kind " + kind, x, 1);
            x.station(0, 2, kind, 0, 2100);
            owner("and on, kind " + kind, x, 2);
            x.station(0, 0, kind, 0, 2100);
            owner("and back, kind " + kind, x, 0);
            x.station(0, 3, SEIZED, 0, 2100);
            x.station(0, 4, kind, 0, 2100);
            owner("not from one without the title, kind " + kind, x, 0);
            x.station(0, 0, kind, 0, 2100);
            x.station(0, 5, kind, 0, 2100);
            owner("from the one with the title again, kind " + kind, x, 5);
        }
        Restitutory dead = ready();
        dead.station(0, 0, GIVEN, 0, 1900);
        dead.die(0);
        dead.station(0, 1, GIVEN, 0, 1950);
        owner("from a dead one", dead, 1);
        dead.die(1);
        dead.station(0, 2, BOUGHT, 0, 1960);
        owner("from dead one to dead one", dead, 2);
        Restitutory eight = ready();
        for (int i = 0; i < 8; i++) {
            eight.station(0, i % 6, i % 3, 0, 1900 + i);
            owner("through " + (i + 1) + " stations", eight, i % 6);
        }
    }

    /** All runs of five stations among three people, each given, lost or bought and kept in good faith. */
    private static void termTitleThroughAll() {
        for (int code = 0; code < 3 * 9 * 9 * 9 * 9; code++) {
            Restitutory x = ready();
            x.faith(1, 10);
            int ahead = code % 3;
            int due = ahead;
            x.station(0, ahead, LEFT, 0, 1900);
            StringBuilder run = new StringBuilder().append(ahead);
            for (int i = 1, rest = code / 3; i < 5; i++, rest /= 9) {
                int party = rest % 3;
                int kind = rest / 3 % 3 == 2 ? LEFT : rest / 3 % 3;
                x.station(0, party, kind, 1, 1900 + 10 * i);
                run.append(", ").append(party).append(" by ").append(kind);
                due = kind == BOUGHT || kind == GIVEN && ahead == due ? party : due;
                ahead = party;
            }
            owner(run.toString(), x, due);
        }
    }

    private static void termTitleNotFromHeirs() {
        Restitutory x = seized();
        x.heir(0, 2);
        x.die(0);
        x.station(0, 2, INHERITED, 0, 1950);
        x.station(0, 3, GIVEN, 0, 1960);
        owner("the heir is ahead, not the one with the title", x, 2);
        x.die(2);
        owner("the title is not the heir's to leave", x, -1);
        x.heir(2, 4);
        owner("but the heirs' heirs are looked at", x, 4);
        Restitutory y = seized();
        y.heir(0, 5);
        y.die(0);
        y.station(0, 3, GIVEN, 0, 1950);
        y.station(0, 5, LEFT, 0, 1960);
        y.station(0, 4, BOUGHT, 0, 1970);
        owner("bought from the heir", y, 5);
        y.station(0, 0, LEFT, 0, 1980);
        y.station(0, 4, GIVEN, 0, 1990);
        owner("given by the dead one", y, 4);
    }

    private static void termGoodFaithAlone() {
        for (int kind = BOUGHT; kind <= LEFT; kind++) {
            Restitutory x = seized();
            x.faith(0, 1);
            x.station(0, 2, kind, 0, 1950);
            owner("after 150 years, kind " + kind, x, kind == BOUGHT ? 2 : 0);
            x.persecution(1, 0, 1950, 1950);
            owner("from a persecuted one, kind " + kind, x, 0);
            x.persecution(2, 0, 1900, 1949);
            x.persecution(2, 0, 1951, 2100);
            owner("rather than by one, kind " + kind, x, 0);
        }
        for (int land = 0; land < 5; land++) {
            for (int knowing = 0; knowing < 5; knowing++) {
                Restitutory x = seized();
                x.station(0, 2, BOUGHT, land, 1950);
                x.station(0, 3, LEFT, 4 - land, 2000);
                x.faith(knowing, 50);
                owner("bought in " + land + ", known in " + knowing, x, land == knowing ? 2 : 0);
            }
        }
    }

    private static void termGoodFaithYears() {
        for (int years = 1; years <= 60; years++) {
            Restitutory x = seized();
            x.faith(3, years);
            x.station(0, 2, BOUGHT, 3, 2101 - years);
            owner(years + " years, now a year too early", x, 0);
            x.station(0, 3, BOUGHT, 3, 2100 - years);
            // Person 2 bought from person 3 a year after; so person 3 kept it for one year alone.
            owner(years + " years, a year between", x, years == 1 ? 2 : 0);
            Restitutory y = seized();
            y.faith(3, years);
            y.station(0, 2, BOUGHT, 3, 2100 - years);
            owner(years + " years, just now", y, 2);
            Restitutory z = seized();
            z.faith(3, years);
            z.station(0, 2, BOUGHT, 3, 1950);
            z.station(0, 3, LEFT, 4, 1950 + years);
            owner(years + " years to the next one", z, 2);
            Restitutory w = seized();
            w.faith(3, years);
            w.station(0, 2, BOUGHT, 3, 1950);
            w.station(0, 3, LEFT, 4, 1949 + years);
            owner("a year less than " + years + " to the next one", w, 0);
            w.faith(3, years - 1);
            owner("a year less than " + years + " needed", w, years == 1 ? 0 : 2);
        }
        Restitutory none = seized();
        none.station(0, 2, BOUGHT, 0, 1902);
        owner("no good faith after 198 years", none, 0);
        none.faith(0, 60);
        owner("60 of 198 years", none, 2);
        none.faith(0, 0);
        owner("no good faith any more", none, 0);
    }

    private static void termGoodFaithUntil() {
        Restitutory x = new Restitutory();
        for (int i = 0; i < 4; i++) {
            x.person(i);
        }
        x.thing(0, 0);
        x.now(1950);
        x.faith(0, 10);
        x.station(0, 0, GIVEN, 1, 1900);
        x.station(0, 1, SEIZED, 1, 1940);
        x.station(0, 2, BOUGHT, 0, 1950);
        owner("this year", x, 0);
        for (int year = 1951; year <= 1965; year++) {
            x.now(year);
            owner("now it is " + year, x, year >= 1960 ? 2 : 0);
        }
        x.station(0, 3, LEFT, 1, 1959);
        owner("the next one counts, not now", x, 0);
        x.station(0, 0, LEFT, 1, 1965);
        x.now(2100);
        owner("nor the one after the next", x, 0);
        x.faith(0, 9);
        owner("the next one is near enough", x, 2);
        x.station(0, 3, GIVEN, 1, 1950);
        owner("a next one of the same year", x, 0);
        x.faith(0, 1);
        owner("1 year, and none between", x, 0);
        Restitutory last = seized();
        last.faith(0, 1);
        last.station(0, 2, BOUGHT, 0, 2100);
        owner("the last one, this year", last, 0);
        last.station(0, 3, BOUGHT, 0, 2099);
        owner("told last, but not the last one", last, 2);
    }

    private static void termHolder() {
        Check.term("The holder of a thing is the party of its last station.");
        for (int kind = BOUGHT; kind <= LEFT; kind++) {
            Restitutory x = ready();
            x.station(0, 5, kind, 0, 1950);
            Check.due("the only one, kind " + kind, x.holder(0), 5);
            x.station(0, 4, kind, 0, 1950);
            Check.due("of the same year, kind " + kind, x.holder(0), 4);
            x.station(0, 3, kind, 0, 1949);
            Check.due("of an earlier one, kind " + kind, x.holder(0), 4);
            x.station(0, 0, kind, 0, 1951);
            Check.due("of a later one, kind " + kind, x.holder(0), 0);
            x.heir(0, 2);
            x.die(0);
            Check.due("dead, kind " + kind, x.holder(0), 0);
            x.settle(0, 1, true);
            Check.due("another one settled", x.holder(0), 0);
        }
    }

    private static void termOwner() {
        Check.term("Its owner is who has the title then, or, if that one is dead, the heir; nobody, if there is none.");
        for (int titled = 0; titled < 6; titled++) {
            Restitutory x = ready();
            x.station(0, titled, GIVEN, 0, 1900);
            int heir = (titled + 1) % 6;
            x.heir(titled, heir);
            owner("living, with an heir", x, titled);
            x.die(titled);
            owner("dead, with an heir", x, heir);
            x.die(heir);
            owner("dead, and the heir too", x, -1);
            x.heir(heir, titled);
            owner("heirs of one another, both dead", x, -1);
            x.heir(titled, (titled + 2) % 6);
            owner("the next heir", x, (titled + 2) % 6);
        }
        Restitutory chain = ready();
        chain.station(0, 0, GIVEN, 0, 1900);
        for (int i = 0; i < 5; i++) {
            chain.heir(i, i + 1);
            owner("all living up to " + i, chain, i == 4 ? -1 : i);
            chain.die(i);
            owner("generation " + (i + 1), chain, i < 3 ? i + 1 : -1);
        }
        Restitutory none = ready();
        none.station(0, 0, GIVEN, 0, 1900);
        none.station(0, 1, LEFT, 0, 1950);
        none.die(0);
        owner("nobody, though there is a holder", none, -1);
        Check.due("the holder", none.holder(0), 1);
    }

    private static void promise18() {
        Check.sentence(18, "Returns whether a station is a loss.");
        Restitutory x = ready();
        for (int i = 0; i < 8; i++) {
            x.station(0, i % 6, i == 0 ? LEFT : SEIZED, 0, 2000 - i);
        }
        for (int i = 0; i < 8; i++) {
            Check.due("station " + i + " told from the last one back", x.isLoss(0, i), i < 7);
        }
        Check.sentence(18, "Throws `IndexOutOfBoundsException` as told, of the thing or the station");
        for (int thing : Edges.outside(0, 1)) {
            Check.dueThrow("thing " + thing, Check.INDEX, () -> x.isLoss(thing, 0));
        }
        for (int count : new int[] {0, 1, 7, 8}) {
            for (int station : Edges.outside(0, count - 1)) {
                Check.dueThrow("station " + station + " of " + count, Check.INDEX, () -> given(count).isLoss(0, station));
            }
        }
        Check.dueThrow("a station of the other thing alone", Check.INDEX, () -> given(8).isLoss(1, 0));
        Check.dueThrow("no things", Check.INDEX, () -> new Restitutory().isLoss(0, 0));
    }

    /** So many stations of thing 0, each GIVEN in 1950 to person 0. */
    private static Restitutory given(int count) {
        Restitutory x = ready();
        for (int i = 0; i < count; i++) {
            x.station(0, 0, GIVEN, 0, 1950);
        }
        return x;
    }

    private static void promise19() {
        Check.sentence(19, "Returns the holder of a thing.");
        Restitutory x = ready();
        for (int i = 0; i < 8; i++) {
            x.station(0, i % 6, i % 6, 0, 1900 + i);
            Check.due("after " + (i + 1), x.holder(0), i % 6);
        }
        Restitutory y = ready();
        for (int i = 0; i < 8; i++) {
            y.station(0, i % 6, i % 6, 0, 2000 - i);
            Check.due("after " + (i + 1) + ", each earlier", y.holder(0), 0);
        }
        Check.sentence(19, "Returns the person; NONE without stations.");
        Check.due("the other thing", x.holder(1), -1);
        Check.due("person 11", elevenPeopleMore().holder(0), 11);
        refusedThings(19, (z, thing) -> z.holder(thing));
    }

    /** Twelve people; thing 0 is person 11's, and has no other station. */
    private static Restitutory elevenPeopleMore() {
        Restitutory x = ready();
        for (int i = 6; i < 12; i++) {
            x.person(0);
        }
        x.station(0, 11, BOUGHT, 0, 2100);
        return x;
    }

    private interface OfThing {
        int answer(Restitutory x, int thing);
    }

    private static void refusedThings(int promise, OfThing call) {
        Check.sentence(promise, "Throws `IndexOutOfBoundsException` as told");
        for (int count : new int[] {0, 1, 9, 10}) {
            for (int thing : Edges.outside(0, count - 1)) {
                Restitutory x = new Restitutory();
                for (int i = 0; i < count; i++) {
                    x.thing(0, 0);
                }
                Check.dueThrow("thing " + thing + " of " + count, Check.INDEX, () -> call.answer(x, thing));
            }
        }
    }

    private static void promise20And21() {
        Check.sentence(20, "Returns the owner of a thing.");
        Check.due("of thing 1", ofThingOne().owner(1), 2);
        Check.due("of thing 0", ofThingOne().owner(0), 0);
        Check.sentence(21, "Returns the same, found from the last station back.");
        Check.due("of thing 1", ofThingOne().ownerAnew(1), 2);
        Check.due("of thing 0", ofThingOne().ownerAnew(0), 0);
        for (int i = 0; i < 3; i++) {
            Restitutory x = ofThingOne();
            x.ownerAnew(i % 2);
            Check.due("one after the other", x.ownerAnew(1), 2);
            Check.due("one after the other", x.ownerAnew(0), 0);
        }
        Check.sentence(20, "Returns the person; NONE if there is none, or no station.");
        Check.due("no station", ready().owner(0), -1);
        Check.due("person 11", elevenPeopleMore().owner(0), 11);
        Check.sentence(21, "Returns the person; NONE if there is none, or no station.");
        Check.due("no station", ready().ownerAnew(0), -1);
        Check.due("person 11", elevenPeopleMore().ownerAnew(0), 11);
        Restitutory dead = elevenPeopleMore();
        dead.die(11);
        Check.due("there is none", dead.ownerAnew(0), -1);
        Check.sentence(20, "Returns the person; NONE if there is none, or no station.");
        Check.due("there is none", dead.owner(0), -1);
        refusedThings(20, (z, thing) -> z.owner(thing));
        Check.sentence(20, "Throws `IndexOutOfBoundsException` as told");
        Check.dueThrow("no things", Check.INDEX, () -> new Restitutory().owner(0));
        refusedThings(21, (z, thing) -> z.ownerAnew(thing));
        Check.sentence(21, "Throws `IndexOutOfBoundsException` as told");
        Check.dueThrow("no things", Check.INDEX, () -> new Restitutory().ownerAnew(0));
        Check.sentence(19, "Throws `IndexOutOfBoundsException` as told");
        Check.dueThrow("no things", Check.INDEX, () -> new Restitutory().holder(0));
    }

    /** Thing 1 is person 2's by a settlement, thing 0 was seized from person 0. */
    private static Restitutory ofThingOne() {
        Restitutory x = seized();
        x.station(1, 3, GIVEN, 0, 1950);
        x.station(1, 2, SEIZED, 0, 1960);
        x.station(1, 4, SEIZED, 0, 1970);
        x.settle(1, 1, true);
        return x;
    }

    private static void promise22() {
        Check.sentence(22, "Returns how many things a person owns that others hold.");
        Restitutory x = ready();
        for (int person = 0; person < 6; person++) {
            Check.due("no stations", x.asks(person), 0);
        }
        for (int i = 2; i < 10; i++) {
            x.thing(0, 0);
        }
        for (int i = 0; i < 10; i++) {
            x.station(i, 5, GIVEN, 0, 1950);
            Check.due("owned and held", x.asks(5), i);
            x.station(i, 4, LEFT, 0, 1950);
            Check.due("owned, not held", x.asks(5), i + 1);
            Check.due("held, not owned", x.asks(4), 0);
        }
        for (int i = 9; i >= 0; i--) {
            x.station(i, 5, LEFT, 0, 1950);
            Check.due("held again", x.asks(5), i);
        }
        for (int i = 0; i < 10; i++) {
            x.station(i, 3, SEIZED, 0, 1960);
            x.settle(i, 3, true);
            Check.due("others' by a settlement", x.asks(5), 0);
            Check.due("their own", x.asks(3), 0);
        }
    }

    private static void promise22Heirs() {
        Check.sentence(22, "Returns how many things a person owns that others hold.");
        Restitutory x = ready();
        x.station(0, 0, GIVEN, 0, 1950);
        x.station(1, 0, GIVEN, 0, 1950);
        x.station(1, 1, SEIZED, 0, 1950);
        x.heir(0, 1);
        Check.due("living", x.asks(0), 1);
        Check.due("the heir of somebody living", x.asks(1), 0);
        x.die(0);
        Check.due("dead", x.asks(0), 0);
        Check.due("what a dead one holds, not what the heir does", x.asks(1), 1);
        x.die(1);
        Check.due("dead as well", x.asks(1), 0);
        x.heir(1, 2);
        Check.due("dead ones hold both", x.asks(2), 2);
        x.die(2);
        for (int person = 0; person < 6; person++) {
            Check.due("nobody owns them", x.asks(person), 0);
        }
        x.heir(2, 3);
        Check.due("the third generation", x.asks(3), 2);
        x.die(3);
        x.heir(3, 4);
        Check.due("the fourth of one", x.asks(4), 0);
    }

    private static void promise22Refused() {
        Check.sentence(22, "Throws `IndexOutOfBoundsException` as told");
        for (int count : new int[] {0, 1, 11, 12}) {
            for (int person : Edges.outside(0, count - 1)) {
                Restitutory x = new Restitutory();
                for (int i = 0; i < count; i++) {
                    x.person(0);
                }
                Check.dueThrow("person " + person + " of " + count, Check.INDEX, () -> x.asks(person));
            }
        }
        Check.dueThrow("things, but no people", Check.INDEX, () -> oneThing().asks(0));
    }

    private static Restitutory oneThing() {
        Restitutory x = new Restitutory();
        x.thing(0, 0);
        return x;
    }
}
