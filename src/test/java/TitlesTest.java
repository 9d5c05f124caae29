/** Promises 18 to 22: losses, holders, titles, owners and who asks. */
public final class TitlesTest {
    private static final int BOUGHT = 0, GIVEN = 1, INHERITED = 2, SEIZED = 3, FORCED = 4, LEFT = 5;
    private static final int[] WRONG = {-1, 6, 12, Integer.MIN_VALUE, Integer.MAX_VALUE};

    public static void main(String[] args) {
        promise18Kinds();
        promise18Presumption();
        promise18Order();
        promise18Exceptions();
        promise19Holder();
        promise20FirstStation();
        promise20PassingOn();
        promise20Settled();
        promise20GoodFaithToNow();
        promise20GoodFaithToTheNext();
        promise20GoodFaithExcept();
        promise20Heirs();
        promise20LaterStationsTakeTheTitleOn();
        promise22Asks();
        promise22Exceptions();
        Check.end();
    }

    /** Persons 0 to 5 of the groups 0, 1, 2, 3, 0, 1; two things without stations; the year 2000. */
    private static Restitutory ready() {
        Restitutory x = new Restitutory();
        for (int i = 0; i < 6; i++) {
            x.person(i % 4);
        }
        x.now(2000);
        x.thing(0, 0);
        x.thing(0, 0);
        return x;
    }

    private static void owner(String what, Restitutory x, int want) {
        Check.due("20: " + what, x.owner(0), want);
        Check.due("21: " + what, x.ownerAnew(0), want);
    }

    private static void promise18Kinds() {
        for (int kind = BOUGHT; kind <= LEFT; kind++) {
            Restitutory x = ready();
            x.station(0, 0, kind, 0, 1900);
            x.station(0, 1, kind, 0, 1950);
            Check.due("18: the first one, kind " + kind, x.isLoss(0, 0), false);
            Check.due("18: another one, kind " + kind, x.isLoss(0, 1), kind >= SEIZED);
            x.persecution(0, 0, 1900, 2100);
            Check.due("18: the first one, dark years, kind " + kind, x.isLoss(0, 0), false);
            Check.due("18: dark years, kind " + kind, x.isLoss(0, 1), kind >= SEIZED || kind == BOUGHT);
            x.settle(0, 1, true);
            Check.due("18: a settled loss stays one", x.isLoss(0, 1), kind >= SEIZED || kind == BOUGHT);
        }
    }

    private static void promise18Presumption() {
        Restitutory x = ready();
        x.persecution(1, 3, 1933, 1945);
        x.station(0, 1, GIVEN, 3, 1932);
        x.station(0, 0, BOUGHT, 3, 1933);
        Check.due("18: the party ahead is persecuted", x.isLoss(0, 1), true);
        x.station(0, 1, BOUGHT, 3, 1940);
        Check.due("18: not if the buyer alone is", x.isLoss(0, 2), false);
        x.station(0, 2, BOUGHT, 2, 1941);
        Check.due("18: not in another land", x.isLoss(0, 3), false);
        x.station(0, 1, GIVEN, 3, 1942);
        x.station(0, 2, BOUGHT, 3, 1945);
        Check.due("18: in the last year", x.isLoss(0, 5), true);
        x.station(0, 1, GIVEN, 3, 1945);
        x.station(0, 2, BOUGHT, 3, 1946);
        Check.due("18: not a year later", x.isLoss(0, 7), false);
        x.rebut(0, 5, true);
        Check.due("18: rebutted", x.isLoss(0, 5), false);
        Check.due("18: the other one was not", x.isLoss(0, 1), true);
        x.rebut(0, 5, false);
        Check.due("18: not any more", x.isLoss(0, 5), true);
        x.die(1);
        Check.due("18: also of the dead", x.isLoss(0, 1), true);
    }

    private static void promise18Order() {
        Restitutory x = ready();
        x.persecution(1, 0, 1900, 1999);
        x.station(0, 1, SEIZED, 0, 1950);
        x.station(0, 0, BOUGHT, 0, 1960);
        Check.due("18: the first one is no loss", x.isLoss(0, 0), false);
        Check.due("18: person 1 is ahead", x.isLoss(0, 1), true);
        x.station(0, 2, GIVEN, 0, 1940);
        Check.due("18: it is not the first one any more", x.isLoss(0, 0), true);
        x.station(0, 3, GIVEN, 0, 1955);
        Check.due("18: person 3 is ahead now", x.isLoss(0, 1), false);
        x.station(0, 1, GIVEN, 0, 1960);
        Check.due("18: of the same year, told later", x.isLoss(0, 1), false);
    }

    private static void promise18Exceptions() {
        Restitutory x = ready();
        x.station(0, 0, GIVEN, 0, 1900);
        for (int wrong : WRONG) {
            Check.dueThrow("18: thing " + wrong, Check.INDEX, () -> x.isLoss(wrong, 0));
            Check.dueThrow("18: station " + wrong, Check.INDEX, () -> x.isLoss(0, wrong));
            Check.dueThrow("19: thing " + wrong, Check.INDEX, () -> x.holder(wrong));
            Check.dueThrow("20: thing " + wrong, Check.INDEX, () -> x.owner(wrong));
            Check.dueThrow("21: thing " + wrong, Check.INDEX, () -> x.ownerAnew(wrong));
            Check.dueThrow("22: person " + wrong, Check.INDEX, () -> x.asks(wrong));
        }
        Check.dueThrow("18: a thing without stations", Check.INDEX, () -> x.isLoss(1, 0));
        Check.dueThrow("18: station 1 of 1", Check.INDEX, () -> x.isLoss(0, 1));
        Check.dueThrow("19: thing 2 of 2", Check.INDEX, () -> x.holder(2));
    }

    private static void promise19Holder() {
        Restitutory x = ready();
        Check.due("19: no stations", x.holder(0), -1);
        x.station(0, 2, GIVEN, 0, 1950);
        Check.due("19: one station", x.holder(0), 2);
        x.station(0, 3, SEIZED, 0, 1940);
        Check.due("19: an earlier one told later", x.holder(0), 2);
        x.station(0, 4, LEFT, 0, 1950);
        Check.due("19: of the same year, told later", x.holder(0), 4);
        x.die(4);
        x.heir(4, 5);
        Check.due("19: dead or not", x.holder(0), 4);
        Check.due("19: the other thing", x.holder(1), -1);
    }

    private static void promise20FirstStation() {
        for (int kind = BOUGHT; kind <= LEFT; kind++) {
            Restitutory x = ready();
            x.persecution(2, 0, 1900, 2100);
            owner("no stations", x, -1);
            x.station(0, 2, kind, 0, 2000);
            owner("the first station, kind " + kind, x, 2);
            x.settle(0, 0, true);
            owner("the first station settled", x, 2);
        }
    }

    private static void promise20PassingOn() {
        for (int kind = BOUGHT; kind <= LEFT; kind++) {
            Restitutory x = ready();
            x.station(0, 0, GIVEN, 0, 1900);
            x.station(0, 1, kind, 0, 1910);
            owner("from the titled one, kind " + kind, x, kind >= SEIZED ? 0 : 1);
            x.station(0, 2, GIVEN, 0, 1920);
            owner("given on, after kind " + kind, x, kind >= SEIZED ? 0 : 2);
            x.station(0, 3, INHERITED, 0, 1930);
            x.station(0, 4, BOUGHT, 0, 1940);
            owner("and on, after kind " + kind, x, kind >= SEIZED ? 0 : 4);
            x.station(0, 0, LEFT, 0, 1950);
            x.station(0, 5, GIVEN, 0, 1960);
            owner("back at the first one, after kind " + kind, x, kind >= SEIZED ? 5 : 4);
        }
        Restitutory y = ready();
        y.station(0, 0, GIVEN, 0, 1900);
        y.die(0);
        y.station(0, 1, BOUGHT, 0, 1910);
        owner("from a dead one", y, 1);
        y.station(0, 0, SEIZED, 0, 1920);
        y.heir(1, 2);
        y.die(1);
        y.station(0, 2, GIVEN, 0, 1930);
        y.station(0, 3, GIVEN, 0, 1940);
        owner("heirs do not count on the way", y, 2);
        y.die(2);
        owner("the title is still the dead one's", y, -1);
    }

    private static void promise20Settled() {
        Restitutory x = ready();
        x.persecution(0, 0, 1933, 1945);
        x.station(0, 0, GIVEN, 0, 1900);
        x.station(0, 1, BOUGHT, 0, 1938);
        x.station(0, 2, BOUGHT, 0, 1950);
        owner("a presumed loss", x, 0);
        x.rebut(0, 1, true);
        owner("rebutted", x, 2);
        x.rebut(0, 1, false);
        owner("not rebutted any more", x, 0);
        x.settle(0, 1, true);
        owner("settled", x, 2);
        x.settle(0, 1, false);
        owner("not any more", x, 0);
        x.settle(0, 2, true);
        owner("the later one settled", x, 2);
        x.station(0, 3, LEFT, 0, 1960);
        owner("a loss after it", x, 2);
        x.settle(0, 3, true);
        owner("this one settled too", x, 3);
        x.station(0, 4, GIVEN, 1, 1970);
        owner("passed on from there", x, 4);
        x.station(0, 5, INHERITED, 1, 1905);
        owner("one before it all", x, 4);
    }

    private static void promise20GoodFaithToNow() {
        Restitutory x = ready();
        x.station(0, 0, GIVEN, 0, 1900);
        x.station(0, 1, SEIZED, 0, 1940);
        x.station(0, 2, BOUGHT, 1, 1980);
        owner("no good faith", x, 0);
        x.faith(1, 21);
        owner("21 years, 20 are over", x, 0);
        x.faith(1, 20);
        owner("20 years", x, 2);
        x.faith(1, 0);
        owner("not any more", x, 0);
        x.faith(0, 1);
        owner("in another land", x, 0);
        x.faith(1, 60);
        x.now(2039);
        owner("60 years, 59 are over", x, 0);
        x.now(2040);
        owner("60 years", x, 2);
    }

    private static void promise20GoodFaithToTheNext() {
        Restitutory x = ready();
        x.faith(1, 10);
        x.station(0, 0, GIVEN, 0, 1900);
        x.station(0, 1, SEIZED, 0, 1940);
        x.station(0, 2, BOUGHT, 1, 1950);
        owner("to now", x, 2);
        x.station(0, 3, SEIZED, 0, 1959);
        owner("9 years to the next one", x, 0);
        x.faith(1, 9);
        owner("9 years needed", x, 2);
        x.station(0, 4, BOUGHT, 1, 1990);
        owner("9 years needed, 10 over, after a loss", x, 4);
        x.station(0, 5, LEFT, 1, 1990);
        owner("the next one of the same year", x, 2);
        x.faith(1, 1);
        owner("1 year needed, none between", x, 2);
        x.station(0, 0, LEFT, 2, 1950);
        owner("no year between, told in later", x, 0);
        x.faith(0, 1);
        x.faith(2, 1);
        owner("good faith elsewhere", x, 0);
    }

    private static void promise20GoodFaithExcept() {
        for (int kind = BOUGHT; kind <= LEFT; kind++) {
            Restitutory x = ready();
            x.faith(1, 1);
            x.station(0, 0, GIVEN, 0, 1900);
            x.station(0, 1, SEIZED, 0, 1940);
            x.station(0, 2, kind, 1, 1950);
            owner("good faith by kind " + kind, x, kind == BOUGHT ? 2 : 0);
            x.persecution(1, 1, 1950, 1950);
            owner("not by a loss, kind " + kind, x, 0);
            x.settle(0, 2, true);
            owner("settled, kind " + kind, x, 2);
        }
        Restitutory y = ready();
        y.faith(1, 1);
        y.persecution(0, 1, 1940, 1940);
        y.station(0, 0, GIVEN, 0, 1900);
        y.station(0, 1, BOUGHT, 1, 1940);
        owner("a loss gets no good faith", y, 0);
        y.rebut(0, 1, true);
        owner("rebutted", y, 1);
    }

    private static void promise20Heirs() {
        Restitutory x = ready();
        x.station(0, 0, GIVEN, 0, 1900);
        x.station(0, 5, SEIZED, 0, 1940);
        x.heir(0, 1);
        owner("living, heirs or not", x, 0);
        x.die(0);
        owner("the heir", x, 1);
        x.die(1);
        owner("nobody", x, -1);
        Check.due("20: the holder is no owner by that", x.holder(0), 5);
        x.heir(1, 2);
        owner("the heir's heir", x, 2);
        x.die(2);
        x.heir(2, 3);
        owner("the third generation", x, 3);
        x.die(3);
        x.heir(3, 4);
        owner("not the fourth", x, -1);
        x.heir(0, 5);
        owner("the next heir", x, 5);
    }

    private static void promise20LaterStationsTakeTheTitleOn() {
        Restitutory x = ready();
        x.station(0, 0, GIVEN, 0, 1900);
        x.station(0, 1, SEIZED, 0, 1910);
        x.station(0, 0, GIVEN, 0, 1920);
        owner("given back", x, 0);
        x.station(0, 2, GIVEN, 0, 1930);
        owner("then given on", x, 2);
        x.station(0, 3, LEFT, 0, 1940);
        x.station(0, 2, BOUGHT, 0, 1950);
        x.station(0, 4, BOUGHT, 0, 1960);
        owner("bought back and sold", x, 4);
        x.station(0, 4, GIVEN, 0, 1970);
        owner("to oneself", x, 4);
    }

    private static void promise22Asks() {
        Restitutory x = ready();
        Check.due("22: nothing", x.asks(0), 0);
        x.station(0, 0, GIVEN, 0, 1900);
        Check.due("22: what one holds is not asked for", x.asks(0), 0);
        x.station(0, 1, SEIZED, 0, 1940);
        Check.due("22: one thing", x.asks(0), 1);
        Check.due("22: the holder asks for nothing", x.asks(1), 0);
        x.station(1, 0, GIVEN, 0, 1900);
        x.station(1, 2, LEFT, 0, 1940);
        Check.due("22: two things", x.asks(0), 2);
        for (int thing = 2; thing < 10; thing++) {
            x.thing(0, 0);
            x.station(thing, 0, GIVEN, 0, 1900);
            x.station(thing, 1, SEIZED, 0, 1940);
        }
        Check.due("22: ten things", x.asks(0), 10);
        x.heir(0, 1);
        x.die(0);
        Check.due("22: the dead ask for nothing", x.asks(0), 0);
        Check.due("22: the heir holds all but one", x.asks(1), 1);
        x.die(1);
        Check.due("22: no heir living", x.asks(1), 0);
        x.heir(1, 2);
        Check.due("22: the heir's heir holds one", x.asks(2), 9);
        x.station(1, 1, GIVEN, 0, 1950);
        Check.due("22: the dead hold them all", x.asks(2), 10);
    }

    private static void promise22Exceptions() {
        Restitutory x = new Restitutory();
        Check.dueThrow("22: no people", Check.INDEX, () -> x.asks(0));
        x.person(0);
        Check.due("22: no things", x.asks(0), 0);
        x.thing(0, 0);
        Check.due("22: no stations", x.asks(0), 0);
        Check.dueThrow("22: person 1 of 1", Check.INDEX, () -> x.asks(1));
    }
}
