/** Ordinary runs of calls, as the program is meant to be used: what happens to a thing, and what is answered on the way. */
public final class StoriesTest {
    private static final int BOUGHT = 0, GIVEN = 1, INHERITED = 2, SEIZED = 3, FORCED = 4, LEFT = 5;

    public static void main(String[] args) {
        passingOn();
        takenAndGivenBack();
        soldInDarkYears();
        keptInGoodFaith();
        settledLater();
        heirsOfTheHeirs();
        stationsFoundLater();
        whoAsks();
        likeThings();
        Check.end();
    }

    /** Persons 0 to 5 of the groups 0, 1, 2, 3, 0, 1; two things without stations; the year 2000. */
    private static Restitutory ready() {
        Restitutory x = new Restitutory();
        for (int i = 0; i < 6; i++) {
            x.person(i % 4);
        }
        x.now(2000);
        x.thing(0, 0);
        x.thing(0, 0);
        return x;
    }

    private static void owner(String what, Restitutory x, int want) {
        Check.due("20: " + what, x.owner(0), want);
        Check.due("21: " + what, x.ownerAnew(0), want);
    }

    private static void passingOn() {
        for (int kind = BOUGHT; kind <= LEFT; kind++) {
            Restitutory x = ready();
            x.station(0, 0, GIVEN, 0, 1900);
            x.station(0, 1, kind, 0, 1910);
            owner("from the titled one, kind " + kind, x, kind >= SEIZED ? 0 : 1);
            x.station(0, 2, GIVEN, 0, 1920);
            owner("given on, after kind " + kind, x, kind >= SEIZED ? 0 : 2);
            x.station(0, 3, INHERITED, 0, 1930);
            x.station(0, 4, BOUGHT, 0, 1940);
            owner("and on, after kind " + kind, x, kind >= SEIZED ? 0 : 4);
            x.station(0, 0, LEFT, 0, 1950);
            x.station(0, 5, GIVEN, 0, 1960);
            owner("back at the first one, after kind " + kind, x, kind >= SEIZED ? 5 : 4);
        }
    }

    private static void takenAndGivenBack() {
        Restitutory x = ready();
        x.station(0, 0, GIVEN, 0, 1900);
        x.station(0, 1, SEIZED, 0, 1910);
        x.station(0, 0, GIVEN, 0, 1920);
        owner("given back", x, 0);
        x.station(0, 2, GIVEN, 0, 1930);
        owner("then given on", x, 2);
        x.station(0, 3, FORCED, 0, 1940);
        x.station(0, 2, BOUGHT, 0, 1950);
        x.station(0, 4, BOUGHT, 0, 1960);
        owner("bought back and sold", x, 4);
        x.station(0, 4, GIVEN, 0, 1970);
        owner("to oneself", x, 4);
    }

    private static void soldInDarkYears() {
        Restitutory x = ready();
        x.persecution(1, 3, 1933, 1945);
        x.station(0, 1, GIVEN, 3, 1932);
        x.station(0, 0, BOUGHT, 3, 1933);
        Check.due("18: the first dark year", x.isLoss(0, 1), true);
        x.station(0, 1, BOUGHT, 3, 1940);
        Check.due("18: the buyer alone is persecuted", x.isLoss(0, 2), false);
        owner("it was the buyer's all the time", x, 1);
        x.station(0, 2, BOUGHT, 2, 1941);
        Check.due("18: in another land", x.isLoss(0, 3), false);
        owner("sold there", x, 2);
        x.station(0, 1, GIVEN, 3, 1942);
        x.station(0, 2, BOUGHT, 3, 1945);
        Check.due("18: the last dark year", x.isLoss(0, 5), true);
        x.station(0, 1, GIVEN, 3, 1945);
        x.station(0, 2, BOUGHT, 3, 1946);
        Check.due("18: a year after", x.isLoss(0, 7), false);
        owner("in the end", x, 2);
        x.rebut(0, 1, true);
        owner("the first sale rebutted", x, 2);
    }

    private static void keptInGoodFaith() {
        Restitutory x = ready();
        x.station(0, 0, GIVEN, 0, 1900);
        x.station(0, 1, SEIZED, 0, 1940);
        x.station(0, 2, BOUGHT, 1, 1980);
        owner("no good faith", x, 0);
        x.faith(1, 21);
        owner("21 years, 20 are over", x, 0);
        x.now(2001);
        owner("a year after", x, 2);
        x.station(0, 3, BOUGHT, 2, 2001);
        owner("sold then", x, 3);
        x.station(0, 4, SEIZED, 2, 2000);
        owner("but it was seized a year before", x, 0);
        x.faith(1, 20);
        owner("20 years to that", x, 2);
    }

    private static void settledLater() {
        Restitutory x = ready();
        x.persecution(0, 0, 1933, 1945);
        x.station(0, 0, GIVEN, 0, 1900);
        x.station(0, 1, BOUGHT, 0, 1938);
        x.station(0, 2, BOUGHT, 0, 1950);
        owner("a presumed loss", x, 0);
        x.settle(0, 1, true);
        owner("settled", x, 2);
        x.settle(0, 1, false);
        owner("not any more", x, 0);
        x.settle(0, 2, true);
        owner("the later one settled", x, 2);
        x.station(0, 3, LEFT, 0, 1960);
        owner("a loss after it", x, 2);
        x.settle(0, 3, true);
        owner("this one settled too", x, 3);
        x.station(0, 4, GIVEN, 1, 1970);
        owner("passed on from there", x, 4);
    }

    private static void heirsOfTheHeirs() {
        Restitutory x = ready();
        x.station(0, 0, GIVEN, 0, 1900);
        x.station(0, 5, SEIZED, 0, 1940);
        x.heir(0, 4);
        x.heir(0, 2);
        owner("living, heirs or not", x, 0);
        x.die(0);
        owner("the heir", x, 4);
        x.heir(4, 1);
        x.die(4);
        owner("the heir of the first heir", x, 1);
        x.die(1);
        owner("the second heir", x, 2);
        x.heir(1, 3);
        owner("the third generation of the first heir", x, 3);
        Check.due("14: of the dead one", x.heirOf(0), 3);
        Check.due("14: of the heir", x.heirOf(4), 3);
        Check.due("19: who holds it", x.holder(0), 5);
    }

    private static void stationsFoundLater() {
        Restitutory x = ready();
        x.persecution(1, 0, 1900, 1999);
        x.station(0, 1, SEIZED, 0, 1950);
        x.station(0, 0, BOUGHT, 0, 1960);
        Check.due("18: the first one is no loss", x.isLoss(0, 0), false);
        owner("bought from a persecuted one", x, 1);
        x.station(0, 2, GIVEN, 0, 1940);
        Check.due("18: it is not the first one any more", x.isLoss(0, 0), true);
        owner("it was somebody else's before", x, 2);
        x.station(0, 3, GIVEN, 0, 1955);
        Check.due("18: bought from somebody else", x.isLoss(0, 1), false);
        x.station(0, 2, GIVEN, 0, 1958);
        owner("who had it back", x, 0);
        Check.due("17: the order", x.stationAt(0, 0), 2);
        Check.due("17: the order", x.stationAt(0, 3), 4);
        Check.due("19: who holds it", x.holder(0), 0);
    }

    private static void whoAsks() {
        Restitutory x = ready();
        x.station(0, 0, GIVEN, 0, 1900);
        x.station(0, 1, SEIZED, 0, 1940);
        x.station(1, 0, GIVEN, 0, 1900);
        x.station(1, 2, LEFT, 0, 1940);
        Check.due("22: two things", x.asks(0), 2);
        x.settle(1, 1, true);
        Check.due("22: one is settled", x.asks(0), 1);
        x.heir(0, 1);
        x.die(0);
        Check.due("22: the heir holds the other", x.asks(1), 0);
        x.settle(1, 1, false);
        Check.due("22: and asks for the first", x.asks(1), 1);
    }

    private static void likeThings() {
        Restitutory x = new Restitutory();
        x.thing(0b0111, 100);
        Check.due("16: alone", x.likest(0), -1);
        x.thing(0b1101, 90);
        x.thing(0b0111, 70);
        Check.due("15: 2 both, 2 just one, 10 apart", x.likeness(0, 1), 0);
        Check.due("15: 3 both, 30 apart", x.likeness(0, 2), 0);
        Check.due("16: alike, the lowest", x.likest(0), 1);
        Check.due("9: a mark more", x.mark(0, 3, true), false);
        Check.due("15: 3 both, 1 just one, 10 apart", x.likeness(0, 1), 15);
        Check.due("9: taken back from the other", x.mark(1, 0, false), true);
        Check.due("15: 2 both, 2 just one", x.likeness(0, 1), 0);
        Check.due("15: the third", x.likeness(0, 2), -5);
    }
}
