/**
 * The boundaries that Terms I and promises 1 to 8 name, each sentence (told above its test) on the boundary and beyond
 * it; what is REFUSED leaves all as it was.
 */
public final class BoundsOfTownTest {
    private static final int LOW = Integer.MIN_VALUE;
    private static final int HIGH = Integer.MAX_VALUE;

    public static void main(String[] args) {
        placesOfRoads();
        unlikeOnes();
        minutesOfRoads();
        noRoadsAtFirst();
        peopleAtMost();
        oilOfPerson();
        placeOfPerson();
        oilAnew();
        littleAtFirst();
        whatOfPerson();
        worksAtMost();
        minutesOfWork();
        dueOfWork();
        worthOfWork();
        personOfWork();
        aheadOfWork();
        orderOfRefusals();
        whatOfWork();
        day();
        sunday();
        mood();
        otherTerms();
        springAtFirst();
        Due.finish();
    }

    // "PLACES 0 .. 7"
    private static void placesOfRoads() {
        Edge.taken("road(0, 7, 1)", Edge::rich, x -> x.road(0, 7, 1), 0);
        Edge.taken("road(7, 0, 1)", Edge::rich, x -> x.road(7, 0, 1), 0);
        for (int place : new int[] {LOW, -8, -1, 8, 9, 64, HIGH}) {
            Edge.refused("road(" + place + ", 1, 5)", Edge::rich, x -> x.road(place, 1, 5), -1);
            Edge.refused("road(1, " + place + ", 5)", Edge::rich, x -> x.road(1, place, 5), -1);
        }
    }

    // "ROADS of pairs of unlike ones"
    private static void unlikeOnes() {
        for (int place = 0; place < 8; place++) {
            int same = place;
            Edge.refused("road of " + place + " to itself", Edge::rich, x -> x.road(same, same, 5), -1);
            Edge.refused("none of " + place + " to itself", Edge::rich, x -> x.road(same, same, 0), -1);
        }
    }

    // "1 .. 99 minutes, or 0: none"; "what it was"
    private static void minutesOfRoads() {
        WoundTown x = new WoundTown();
        Due.answered(x, "0: none", x.road(2, 3, 0), 0);
        Due.answered(x, "1", x.road(2, 3, 1), 0);
        Due.answered(x, "99, the other way", x.road(3, 2, 99), 1);
        Due.due("it is a road", x.guards(0), 1);
        Due.answered(x, "0: none again", x.road(2, 3, 0), 99);
        Due.due("it is no road", x.guards(0), 0);
        Due.answered(x, "it was none", x.road(3, 2, 50), 0);
        for (int minutes : new int[] {LOW, -99, -1, 100, 101, HIGH}) {
            Edge.refused(minutes + " minutes", Edge::rich, y -> y.road(0, 1, minutes), -1);
        }
    }

    // "0: none (at first)"; of pairs: each has one of its own
    private static void noRoadsAtFirst() {
        WoundTown x = new WoundTown();
        for (int a = 0; a < 8; a++) {
            for (int b = 0; b < a; b++) Due.answered(x, "at first " + a + ", " + b, x.road(a, b, 8 * a + b), 0);
        }
        for (int a = 0; a < 8; a++) {
            for (int b = 0; b < a; b++) Due.answered(x, "then " + b + ", " + a, x.road(b, a, 1), 8 * a + b);
        }
    }

    private static void sixPeople(WoundTown x) {
        Edge.rich(x);
        for (int p = 2; p < 6; p++) x.person(p, p);
    }

    // "PEOPLE 0 .. 5 (6 at most)"; "the number"; "-5 no room"
    private static void peopleAtMost() {
        WoundTown x = new WoundTown();
        for (int p = 0; p < 6; p++) Due.answered(x, "person " + p, x.person(0, 0), p);
        Due.refused(x, "the seventh", x.person(0, 0), -5);
        Due.due("count(0)", x.count(0), 6);
        Due.due("of(5, 0)", x.of(5, 0), 0);
        Due.due("of(6, 0)", x.of(6, 0), -1);
        Edge.refused("a seventh person", BoundsOfTownTest::sixPeople, y -> y.person(9, 7), -5);
    }

    // "OIL 0 .. 9"
    private static void oilOfPerson() {
        Edge.taken("oil 0", Edge::rich, x -> x.person(0, 3), 2);
        Edge.taken("oil 9", Edge::rich, x -> x.person(9, 3), 2);
        for (int oil : new int[] {LOW, -1, 10, HIGH}) {
            Edge.refused("person of oil " + oil, Edge::rich, x -> x.person(oil, 3), -1);
        }
    }

    // "a PLACE"
    private static void placeOfPerson() {
        Edge.taken("place 0", Edge::rich, x -> x.person(1, 0), 2);
        Edge.taken("place 7", Edge::rich, x -> x.person(1, 7), 2);
        for (int place : new int[] {LOW, -1, 8, HIGH}) {
            Edge.refused("person at place " + place, Edge::rich, x -> x.person(1, place), -1);
        }
    }

    // "OIL of a PERSON: what it was. -1; -2."
    private static void oilAnew() {
        Edge.taken("oil(0, 0)", Edge::rich, x -> x.oil(0, 0), 2);
        Edge.taken("oil(1, 9)", Edge::rich, x -> x.oil(1, 9), 4);
        for (int oil : new int[] {LOW, -1, 10, HIGH}) {
            Edge.refused("oil(1, " + oil + ")", Edge::rich, x -> x.oil(1, oil), -1);
            Edge.refused("oil(2, " + oil + "): -1 ahead of -2", Edge::rich, x -> x.oil(2, oil), -1);
        }
        for (int person : new int[] {LOW, -1, 2, 6, HIGH}) {
            Edge.refused("oil(" + person + ", 4)", Edge::rich, x -> x.oil(person, 4), -2);
        }
        Edge.taken("oil(5, 9) of six", BoundsOfTownTest::sixPeople, x -> x.oil(5, 9), 5);
        Edge.refused("oil(6, 9) of six", BoundsOfTownTest::sixPeople, x -> x.oil(6, 9), -2);
    }

    // "LITTLE 0 .. 9 (turns of the little key, 0 at first)"
    private static void littleAtFirst() {
        WoundTown x = new WoundTown();
        x.person(9, 7);
        Due.due("little at first", x.of(0, 2), 0);
        Due.answered(x, "9 at most", x.key(0, 9), 9);
        Due.due("little", x.of(0, 2), 9);
    }

    // "Of a PERSON OIL (what 0), PLACE (1), LITTLE (2), how many WORKS are not DONE all (3). NONE."
    private static void whatOfPerson() {
        Edge.asked("of(1, 0)", Edge::rich, x -> x.of(1, 0), 4);
        Edge.asked("of(1, 1)", Edge::rich, x -> x.of(1, 1), 2);
        Edge.asked("of(0, 2)", Edge::rich, x -> x.of(0, 2), 1);
        Edge.asked("of(1, 3)", Edge::rich, x -> x.of(1, 3), 0);
        for (int what : new int[] {LOW, -1, 4, HIGH}) {
            Edge.none("of(0, " + what + ")", Edge::rich, x -> x.of(0, what));
        }
        for (int person : new int[] {LOW, -1, 2, 6, HIGH}) {
            Edge.none("of(" + person + ", 0)", Edge::rich, x -> x.of(person, 0));
        }
    }

    private static void tenWorks(WoundTown x) {
        Edge.rich(x);
        for (int w = 4; w < 10; w++) x.work(w % 2, 10 * w, w, w, -1);
    }

    // "WORKS 0 .. 9 (10 at most)"; "-5 no room"
    private static void worksAtMost() {
        WoundTown x = new WoundTown();
        x.person(0, 0);
        for (int w = 0; w < 10; w++) Due.answered(x, "work " + w, x.work(0, 1, 1, 1, -1), w);
        Due.refused(x, "the eleventh", x.work(0, 1, 1, 1, -1), -5);
        Due.due("count(1)", x.count(1), 10);
        Due.due("at(9, 1)", x.at(9, 1), 1);
        Due.due("at(10, 1)", x.at(10, 1), -1);
        Edge.refused("an eleventh work", BoundsOfTownTest::tenWorks, y -> y.work(0, 1, 1, 1, 0), -5);
    }

    // "MINUTES 1 .. 600"
    private static void minutesOfWork() {
        Edge.taken("1 minute", Edge::rich, x -> x.work(0, 1, 5, 5, -1), 4);
        Edge.taken("600 minutes", Edge::rich, x -> x.work(0, 600, 5, 5, -1), 4);
        for (int minutes : new int[] {LOW, -1, 0, 601, HIGH}) {
            Edge.refused(minutes + " minutes", Edge::rich, x -> x.work(0, minutes, 5, 5, -1), -1);
        }
    }

    // "DUE 0 .. 23 (an HOUR)"
    private static void dueOfWork() {
        Edge.taken("due 0", Edge::rich, x -> x.work(0, 5, 0, 5, -1), 4);
        Edge.taken("due 23", Edge::rich, x -> x.work(0, 5, 23, 5, -1), 4);
        for (int due : new int[] {LOW, -1, 24, HIGH}) {
            Edge.refused("due " + due, Edge::rich, x -> x.work(0, 5, due, 5, -1), -1);
        }
    }

    // "WORTH 1 .. 99"
    private static void worthOfWork() {
        Edge.taken("worth 1", Edge::rich, x -> x.work(0, 5, 5, 1, -1), 4);
        Edge.taken("worth 99", Edge::rich, x -> x.work(0, 5, 5, 99, -1), 4);
        for (int worth : new int[] {LOW, -1, 0, 100, HIGH}) {
            Edge.refused("worth " + worth, Edge::rich, x -> x.work(0, 5, 5, worth, -1), -1);
        }
    }

    // "-2 there is no such PERSON"
    private static void personOfWork() {
        Edge.taken("the last person", Edge::rich, x -> x.work(1, 5, 5, 5, -1), 4);
        for (int person : new int[] {LOW, -1, 2, 6, HIGH}) {
            Edge.refused("work of person " + person, Edge::rich, x -> x.work(person, 5, 5, 5, -1), -2);
        }
    }

    // "AHEAD: an earlier WORK or none"; "ahead NONE: none"
    private static void aheadOfWork() {
        Edge.taken("ahead none", Edge::rich, x -> x.work(0, 5, 5, 5, WoundTown.NONE), 4);
        Edge.taken("ahead the first", Edge::rich, x -> x.work(0, 5, 5, 5, 0), 4);
        Edge.taken("ahead the latest", Edge::rich, x -> x.work(0, 5, 5, 5, 3), 4);
        for (int ahead : new int[] {LOW, -2, 4, 5, 10, HIGH}) {
            Edge.refused("ahead " + ahead, Edge::rich, x -> x.work(0, 5, 5, 5, ahead), -2);
        }
        Edge.refused("the first work ahead of itself", x -> x.person(0, 0), x -> x.work(0, 5, 5, 5, 0), -2);
    }

    // "The first of these in that order."
    private static void orderOfRefusals() {
        Edge.refused("person(): -1 ahead of -5", BoundsOfTownTest::sixPeople, x -> x.person(10, 0), -1);
        Edge.refused("person(): -1 of the place ahead of -5", BoundsOfTownTest::sixPeople, x -> x.person(0, 8), -1);
        Edge.refused("work(): -1 ahead of -2", Edge::rich, x -> x.work(2, 0, 1, 1, -1), -1);
        Edge.refused("work(): -1 ahead of -2 of a work", Edge::rich, x -> x.work(0, 1, 24, 1, 4), -1);
        Edge.refused("work(): -1 ahead of -2 and -5", BoundsOfTownTest::tenWorks, x -> x.work(2, 1, 1, 100, 10), -1);
        Edge.refused("work(): -1 ahead of -5", BoundsOfTownTest::tenWorks, x -> x.work(0, 601, 1, 1, -1), -1);
        Edge.refused("work(): -2 ahead of -5", BoundsOfTownTest::tenWorks, x -> x.work(2, 1, 1, 1, -1), -2);
        Edge.refused("work(): -2 of a work ahead of -5", BoundsOfTownTest::tenWorks, x -> x.work(0, 1, 1, 1, 10), -2);
    }

    // "Of a WORK PERSON (what 0), MINUTES (1), DUE (2), WORTH (3), AHEAD (4; NONE: none), how much is DONE (5). NONE."
    private static void whatOfWork() {
        int[] second = {1, 80, 21, 8, 0, 80};
        for (int what = 0; what < 6; what++) {
            int asked = what;
            Edge.asked("at(1, " + what + ")", Edge::rich, x -> x.at(1, asked), second[what]);
        }
        Edge.asked("at(0, 4): none", Edge::rich, x -> x.at(0, 4), WoundTown.NONE);
        for (int what : new int[] {LOW, -1, 6, HIGH}) Edge.none("at(0, " + what + ")", Edge::rich, x -> x.at(0, what));
        for (int work : new int[] {LOW, -1, 4, 10, HIGH}) {
            Edge.none("at(" + work + ", 0)", Edge::rich, x -> x.at(work, 0));
        }
        WoundTown y = new WoundTown();
        y.person(0, 0);
        y.work(0, 1, 1, 1, -1);
        Due.due("nothing is done at first", y.at(0, 5), 0);
    }

    // "0 DAY 0 .. 999 (0 at first)"
    private static void day() {
        WoundTown x = new WoundTown();
        Due.answered(x, "at first", x.terms(0, 999), 0);
        Due.answered(x, "999", x.terms(0, 0), 999);
        Due.answered(x, "0", x.terms(0, 1), 0);
        for (int value : new int[] {LOW, -1, 1000, HIGH}) {
            Edge.refused("day " + value, Edge::rich, y -> y.terms(0, value), -1);
        }
    }

    // "1 SUNDAY 1 .. 9 (7)"
    private static void sunday() {
        WoundTown x = new WoundTown();
        Due.answered(x, "at first", x.terms(1, 9), 7);
        Due.answered(x, "9", x.terms(1, 1), 9);
        Due.answered(x, "1", x.terms(1, 2), 1);
        for (int value : new int[] {LOW, -1, 0, 10, HIGH}) {
            Edge.refused("sunday " + value, Edge::rich, y -> y.terms(1, value), -1);
        }
    }

    // "2 MOOD 0 .. 9 (0)"
    private static void mood() {
        WoundTown x = new WoundTown();
        Due.answered(x, "at first", x.terms(2, 9), 0);
        Due.answered(x, "9", x.terms(2, 0), 9);
        Due.answered(x, "0", x.terms(2, 1), 0);
        for (int value : new int[] {LOW, -1, 10, HIGH}) {
            Edge.refused("mood " + value, Edge::rich, y -> y.terms(2, value), -1);
        }
    }

    // "TERMS: 0 DAY .., 1 SUNDAY .., 2 MOOD .."
    private static void otherTerms() {
        for (int what : new int[] {LOW, -1, 3, HIGH}) {
            Edge.refused("terms(" + what + ", 5)", Edge::rich, x -> x.terms(what, 5), -1);
        }
    }

    // "LIFE 0 .. 9,999 (1,000 at first), SNAPPED or not (at first)"; "WOUND by TURNS 0 .. 12, or not WOUND (at first)"
    private static void springAtFirst() {
        WoundTown x = new WoundTown();
        Due.due("life", x.count(12), 1000);
        Due.due("snapped", x.count(13), 0);
        Due.due("turns", x.count(14), -1);
        Due.answered(x, "life 9,999", x.mend(8999), 9999);
        Due.answered(x, "turns 0", x.wind(0), 9999);
        Due.due("turns", x.count(14), 0);
        x.undo();
        Due.answered(x, "turns 12", x.wind(12), 9999 - 144);
        Due.due("turns", x.count(14), 12);
        WoundTown y = new WoundTown();
        Due.force(y, "wears 999");
        y.wind(1);
        y.run();
        Due.due("life 1", y.count(12), 1);
        y.wind(1);
        Due.due("life 0", y.count(12), 0);
    }
}
