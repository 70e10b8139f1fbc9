/**
 * The boundaries that Terms II names for what SUMS, TESTS, LAWS and ORDERS tell and do (promises 13, 14, 16 to 18), each
 * sentence (told above its test) on the boundary and beyond it.
 */
public final class BoundsOfLawsTest {
    private static final int LOW = Integer.MIN_VALUE;
    private static final int HIGH = Integer.MAX_VALUE;
    private static final String MUCH = "1000*1000*1000";

    public static void main(String[] args) {
        thousandMillions();
        thousandMillionsInTests();
        farBeyond();
        dividedByNothing();
        cutTowardsNothing();
        whatIsLeft();
        lessMoreSame();
        orIfItMatters();
        andIfItMatters();
        askedAndBroken();
        clauseHolds();
        runsWithin();
        powerLeft();
        speedsWithin();
        speedsWithout();
        wearsWithin();
        snapsWithin();
        barred();
        turnsIfNotWound();
        wordsNotAsked();
        wordsAtTheirBounds();
        lawInForce();
        asksOfTurns();
        twentyTimes();
        notSoOrBroken();
        sumsFromTheLeft();
        wordsOfOrders();
        whichCanNotBe();
        clauseThatStops();
        none();
        sixteenOfOrders();
        Due.finish();
    }

    /** What the sum comes to as wear by 12 turns; 144, which is TURNS times TURNS, if it is BROKEN. */
    private static void sumIs(String sum, int want) {
        WoundTown x = new WoundTown();
        Due.force(x, "wears " + sum);
        Due.due("\"" + sum + "\"", x.asks(12, 0), want);
    }

    private static void broken(String sum) {
        sumIs(sum, 144);
        WoundTown x = new WoundTown();
        Due.tape(x, "mend " + sum);
        Due.refused(x, "mend " + sum, x.orders(), -3);
    }

    /** Whether the test is so; "not" tells one that is not so from one that is BROKEN. */
    private static void testIs(String test, boolean so, boolean broken) {
        WoundTown x = new WoundTown();
        Due.force(x, "wears 1 if " + test + "; snaps 1 if not (" + test + ")");
        Due.due("\"" + test + "\" is so", x.asks(12, 0), so ? 1 : 144);
        Due.due("\"" + test + "\" is not so", x.asks(12, 1), !so && !broken ? 1 : 30);
    }

    private static void isSo(String test) {
        testIs(test, true, false);
    }

    private static void isNotSo(String test) {
        testIs(test, false, false);
    }

    private static void isBroken(String test) {
        testIs(test, false, true);
    }

    // "Beyond 1,000,000,000 either way .. a SUM .. is BROKEN"
    private static void thousandMillions() {
        sumIs(MUCH + "-" + MUCH + "+5", 5);
        sumIs("999*1000*1000+999*1000+1000-" + MUCH + "+5", 5);
        broken(MUCH + "+1");
        broken("1+" + MUCH);
        broken(MUCH + "+1-" + MUCH + "+5");
        sumIs("0-" + MUCH + "+" + MUCH + "+5", 5);
        broken("0-" + MUCH + "-1+" + MUCH + "+5");
        broken("0-1-" + MUCH);
        sumIs("[0-1000]*1000*1000+" + MUCH + "+5", 5);
        broken("[0-1000]*1000*[1000+1]+" + MUCH);
        broken("1000*1000*[1000+1]-" + MUCH);
        sumIs(MUCH + "*1-" + MUCH + "+5", 5);
        broken(MUCH + "*2");
        broken("[" + MUCH + "+1]*0");
        sumIs("[" + MUCH + "]*0", 0);
        sumIs(MUCH + "/[0-1]+" + MUCH + "+5", 5);
    }

    // ".. a TEST is BROKEN"
    private static void thousandMillionsInTests() {
        isSo(MUCH + " = " + MUCH);
        isSo(MUCH + " > " + MUCH + " - 1");
        isSo("0 - " + MUCH + " < 0");
        isBroken(MUCH + " + 1 > 0");
        isBroken("0 < " + MUCH + " + 1");
        isBroken("0 - " + MUCH + " - 1 < 0");
        isBroken("0 > 0 - " + MUCH + " - 1");
    }

    /** Nor does anything come round again. */
    private static void farBeyond() {
        broken("256*256*256*256");
        broken("256*256*256*256+5");
        broken("[" + MUCH + "]*[" + MUCH + "]");
        broken("[" + MUCH + "]*[0-" + MUCH + "]");
        broken("1000*1000*1000*1000*1000*1000*1000*1000*1000*0+7");
        isBroken("256*256*256*256 = 0");
        isBroken("1000*1000*1000*1000*1000*1000*1000 > 0");
    }

    // "or divided by 0"
    private static void dividedByNothing() {
        broken("1/0");
        broken("0/0");
        broken("1%0");
        broken("0%0");
        broken("5+1/[3-3]*0");
        sumIs("0/1+5", 5);
        sumIs("0%1+5", 5);
        isBroken("1/0 = 1/0");
        isBroken("1%0 < 1");
        sumIs("5+turns/12", 6);
        broken("5+turns/[turns-turns]");
    }

    // "/ cut towards 0"
    private static void cutTowardsNothing() {
        sumIs("100+7/2", 103);
        sumIs("100+[0-7]/2", 97);
        sumIs("100+7/[0-2]", 97);
        sumIs("100+[0-7]/[0-2]", 103);
        sumIs("100+1/2", 100);
        sumIs("100+[0-1]/2", 100);
        sumIs("100+6/3", 102);
        sumIs("100+[0-6]/3", 98);
    }

    // "% what is left then"
    private static void whatIsLeft() {
        sumIs("100+7%3", 101);
        sumIs("100+[0-7]%3", 99);
        sumIs("100+7%[0-3]", 101);
        sumIs("100+[0-7]%[0-3]", 99);
        sumIs("100+6%3", 100);
        sumIs("100+[0-6]%3", 100);
        sumIs("100+2%3", 102);
        sumIs("100+5%1", 100);
    }

    // '"<" | ">" | "="'
    private static void lessMoreSame() {
        isSo("1 < 2");
        isNotSo("2 < 2");
        isNotSo("3 < 2");
        isSo("3 > 2");
        isNotSo("2 > 2");
        isNotSo("1 > 2");
        isSo("2 = 2");
        isNotSo("1 = 2");
        isNotSo("3 = 2");
        isSo("0 - 1 < 0");
        isNotSo("not 1 < 2");
        isSo("not not 1 < 2");
    }

    // '"or" .. ask what stands behind only if it can still matter'
    private static void orIfItMatters() {
        isSo("1 = 1 or 1 / 0 = 1");
        isBroken("1 = 2 or 1 / 0 = 1");
        isSo("1 = 2 or 1 = 1 or 1 / 0 = 1");
        isBroken("1 = 2 or 1 / 0 = 1 or 1 = 1");
        isSo("1 = 1 or 1 = 1 and 1 / 0 = 1");
        isBroken("1 = 2 or 1 = 1 and 1 / 0 = 1");
        isSo("(1 = 1 or 1 / 0 = 1) and 1 = 1");
        isNotSo("not (1 = 1 or 1 / 0 = 1)");
    }

    // '"and" ask what stands behind only if it can still matter'
    private static void andIfItMatters() {
        isNotSo("1 = 2 and 1 / 0 = 1");
        isBroken("1 = 1 and 1 / 0 = 1");
        isNotSo("1 = 1 and 1 = 2 and 1 / 0 = 1");
        isBroken("1 = 1 and 1 / 0 = 1 and 1 = 2");
        isSo("1 = 2 and 1 / 0 = 1 or 1 = 1");
        isBroken("1 = 2 and 1 / 0 = 1 or 1 / 0 = 1");
        isSo("not (1 = 2 and 1 / 0 = 1)");
        isNotSo("not not (1 = 2 and 1 / 0 = 1)");
    }

    // "a part that was asked and is BROKEN makes all of it BROKEN"
    private static void askedAndBroken() {
        isBroken("1 / 0 = 1 or 1 = 1");
        isBroken("1 / 0 = 1 and 1 = 2");
        isBroken("not 1 / 0 = 1");
        isBroken("not (1 = 2 or 1 / 0 = 1)");
        isBroken("(1 / 0 = 1 or 1 = 1) or 1 = 1");
        isBroken("1 + [2 - 1 / 0] * 0 = 1");
    }

    // "A CLAUSE HOLDS, if its "if" (if it has one) is so, and neither that nor its SUM is BROKEN."; "what the last .."
    private static void clauseHolds() {
        sumIs("1; wears 2", 2);
        sumIs("1; wears 2 if 1 = 1", 2);
        sumIs("1; wears 2 if 1 = 2", 1);
        sumIs("1; wears 2 if 1 / 0 = 1", 1);
        sumIs("1; wears 2 / 0", 1);
        sumIs("1; wears 2 / 0 if 1 = 1", 1);
        sumIs("1 if 1 = 2; wears 2 if 1 = 2", 144);
        sumIs("1; snaps 2; runs 3; speeds 4; bars", 1);
        sumIs("1" + Edge.repeated("; wears 2 if 1 = 2", 11), 1);
    }

    private static int powerLeft(String law, int turns) {
        WoundTown x = new WoundTown();
        Due.force(x, law);
        return x.hour(turns, 1, 0);
    }

    // "POWER RUNS down by .. 0 .. 999 (else the nearest), 60 without"
    private static void runsWithin() {
        Due.due("runs 0", powerLeft("runs 0", 12), 1200);
        Due.due("runs 1", powerLeft("runs 1", 12), 1199);
        Due.due("runs 0 - 1", powerLeft("runs 0 - 1", 12), 1200);
        Due.due("runs -1,000,000,000", powerLeft("runs 0 - " + MUCH, 12), 1200);
        Due.due("runs 999", powerLeft("runs 999", 12), 201);
        Due.due("runs 1000", powerLeft("runs 1000", 12), 201);
        Due.due("runs 1,000,000,000", powerLeft("runs " + MUCH, 12), 201);
        Due.due("broken: 60", powerLeft("runs " + MUCH + "+1", 12), 1140);
        Due.due("none holds: 60", powerLeft("runs 5 if 1 = 2", 12), 1140);
        WoundTown x = new WoundTown();
        Due.due("without a law: 60", x.hour(12, 1, 0), 1140);
    }

    // "POWER is TURNS times 100 at first"; "POWER is less by what RUNS (0 at least)"
    private static void powerLeft() {
        WoundTown x = new WoundTown();
        Due.force(x, "runs 100");
        for (int turns = 0; turns <= 12; turns++) {
            for (int hour = 0; hour < 24; hour++) {
                Due.due("by " + turns + " at " + hour, x.hour(turns, hour, 0), Math.max(0, turns - hour) * 100);
            }
        }
        Due.force(x, "runs 101");
        Due.due("1 is left", x.hour(1, 0, 0), 100);
        Due.due("0 at least", x.hour(1, 1, 0), 0);
        Due.force(x, "runs 99");
        Due.due("1 is left", x.hour(1, 1, 0), 1);
        Due.due("0 at least", x.hour(1, 2, 0), 0);
    }

    private static int speed(String law, int little) {
        WoundTown x = new WoundTown();
        x.person(3, 0);
        if (little > 0) x.key(0, little);
        Due.force(x, law);
        return x.hour(12, 0, 1);
    }

    // "one SPEEDS 0 .. 60 minutes an HOUR"
    private static void speedsWithin() {
        Due.due("speeds 0", speed("speeds 0", 0), 0);
        Due.due("speeds 1", speed("speeds 1", 0), 1);
        Due.due("speeds 0 - 1", speed("speeds 0 - 1", 0), 0);
        Due.due("speeds -1,000,000,000", speed("speeds 0 - " + MUCH, 0), 0);
        Due.due("speeds 59", speed("speeds 59", 0), 59);
        Due.due("speeds 60", speed("speeds 60", 0), 60);
        Due.due("speeds 61", speed("speeds 61", 0), 60);
        Due.due("speeds 1,000,000,000", speed("speeds " + MUCH, 0), 60);
    }

    private static void speedWithout(int power, int little, int want) {
        WoundTown x = new WoundTown();
        x.person(3, 0);
        if (little > 0) x.key(0, little);
        Due.force(x, "runs turns * 100 - " + power);
        Due.due("power", x.hour(12, 1, 0) > power ? x.hour(12, 2, 0) : x.hour(12, 1, 0), power);
        int hour = x.hour(12, 1, 0) > power ? 2 : 1;
        Due.due("by power " + power + " and little " + little, x.hour(12, hour, 1), want);
    }

    // "without as POWER by 10 (cut) and 5 for each LITTLE, 60 at most, but 0 if POWER is 0 and LITTLE, too"
    private static void speedsWithout() {
        speedWithout(201, 0, 20);
        speedWithout(209, 0, 20);
        speedWithout(210, 0, 21);
        speedWithout(599, 0, 59);
        speedWithout(600, 0, 60);
        speedWithout(610, 0, 60);
        speedWithout(599, 1, 60);
        speedWithout(209, 1, 25);
        speedWithout(209, 8, 60);
        speedWithout(209, 9, 60);
        WoundTown x = new WoundTown();
        x.person(9, 7);
        x.person(0, 0);
        x.key(1, 1);
        Due.force(x, "runs 91");
        Due.due("power 9 by 10 is 0", x.hour(1, 1, 1), 0);
        Due.due("power 9, little 1", x.hour(1, 1, 2), 5);
        Due.due("power 0, little 0", x.hour(0, 0, 1), 0);
        Due.due("power 0, little 1", x.hour(0, 0, 2), 5);
        x.key(1, 8);
        Due.due("power 0, little 9", x.hour(0, 23, 2), 45);
        Due.force(x, "runs 90");
        Due.due("power 10 by 10 is 1", x.hour(1, 1, 1), 1);
    }

    private static int wear(String law, int turns) {
        WoundTown x = new WoundTown();
        Due.force(x, law);
        return x.asks(turns, 0);
    }

    // "TURNS WEAR the SPRING by 0 .. 999, TURNS times TURNS without"
    private static void wearsWithin() {
        Due.due("wears 0", wear("wears 0", 12), 0);
        Due.due("wears 0 - 1", wear("wears 0 - 1", 12), 0);
        Due.due("wears -1,000,000,000", wear("wears 0 - " + MUCH, 12), 0);
        Due.due("wears 999", wear("wears 999", 12), 999);
        Due.due("wears 1000", wear("wears 1000", 12), 999);
        Due.due("wears 1,000,000,000", wear("wears " + MUCH, 12), 999);
        for (int turns = 0; turns <= 12; turns++) {
            Due.due("none holds, " + turns, wear("wears 5 if 1 = 2", turns), turns * turns);
        }
    }

    private static int snap(String law, int turns) {
        WoundTown x = new WoundTown();
        Due.force(x, law);
        return x.asks(turns, 1);
    }

    // "it SNAPS in as many of a hundred as told, 0 .. 100, without 10 for each TURN beyond 9"
    private static void snapsWithin() {
        Due.due("snaps 0", snap("snaps 0", 12), 0);
        Due.due("snaps 0 - 1", snap("snaps 0 - 1", 12), 0);
        Due.due("snaps -1,000,000,000", snap("snaps 0 - " + MUCH, 12), 0);
        Due.due("snaps 99", snap("snaps 99", 0), 99);
        Due.due("snaps 100", snap("snaps 100", 0), 100);
        Due.due("snaps 101", snap("snaps 101", 0), 100);
        Due.due("snaps 1,000,000,000", snap("snaps " + MUCH, 0), 100);
        int[] without = {0, 0, 0, 0, 0, 0, 0, 0, 0, 0, 10, 20, 30};
        for (int turns = 0; turns <= 12; turns++) {
            Due.due("none holds, " + turns, snap("snaps 5 if 1 = 2", turns), without[turns]);
        }
    }

    // "one is BARRED, if "bars" HOLDS"; "little: as it would be"
    private static void barred() {
        Edge.Setting law = x -> {
            Edge.rich(x);
            Due.force(x, "bars if person = 1 and oil = 4 and little = 3 and power + hour = 0 - 2; bars if 1 / 0 = 1");
        };
        Edge.taken("key(1, 2)", law, x -> x.key(1, 2), 2);
        Edge.refused("key(1, 3)", law, x -> x.key(1, 3), -3);
        Edge.taken("key(1, 4)", law, x -> x.key(1, 4), 4);
        Edge.taken("key(0, 2): of another", law, x -> x.key(0, 2), 3);
        Edge.Setting always = x -> {
            Edge.rich(x);
            Due.force(x, "bars; bars if 1 = 2");
        };
        Edge.refused("always", always, x -> x.key(1, 1), -3);
    }

    // "(turns: 0, if not WOUND)"
    private static void turnsIfNotWound() {
        WoundTown x = new WoundTown();
        x.person(0, 0);
        Due.force(x, "bars if turns = 0");
        Due.refused(x, "not wound", x.key(0, 1), -3);
        x.wind(0);
        Due.refused(x, "wound by 0", x.key(0, 1), -3);
        x.undo();
        x.wind(1);
        Due.answered(x, "wound by 1", x.key(0, 1), 1);
        x.run();
        Due.refused(x, "not wound any more", x.key(0, 1), -3);
        x.wind(12);
        Due.answered(x, "wound by 12", x.key(0, 1), 1);
    }

    /** Whatever a PERSON in an HOUR was asked before. */
    private static WoundTown asked(String law) {
        WoundTown x = new WoundTown();
        x.person(3, 0);
        x.key(0, 4);
        Due.force(x, law);
        x.hour(12, 5, 1);
        return x;
    }

    // "runs" .. (person, oil, little -1), .. "bars" .. (power, hour -1; ..), "wears", "snaps" .. (power, hour, person,
    // oil, little -1)
    private static void wordsNotAsked() {
        for (String word : new String[] {"person", "oil", "little"}) {
            Due.due(word + " of runs", asked("runs 7 if " + word + " = 0 - 1").hour(12, 1, 0), 1193);
            Due.due(word + " of speeds", asked("speeds 0; speeds 7 if " + word + " > 0 - 1").hour(12, 1, 1), 7);
            Due.due(word + " of bars", asked("bars if " + word + " > 0 - 1").key(0, 1), -3);
        }
        for (String word : new String[] {"power", "hour"}) {
            Due.due(word + " of runs", asked("runs 7 if " + word + " > 0 - 1").hour(12, 1, 0), 1193);
            Due.due(word + " of speeds", asked("speeds 0; speeds 7 if " + word + " > 0 - 1").hour(12, 1, 1), 7);
            Due.due(word + " of bars", asked("bars if " + word + " = 0 - 1").key(0, 1), -3);
        }
        for (String word : new String[] {"power", "hour", "person", "oil", "little"}) {
            Due.due(word + " of wears", asked("wears 7 if " + word + " = 0 - 1").asks(12, 0), 7);
            Due.due(word + " of snaps", asked("snaps 7 if " + word + " = 0 - 1").asks(12, 1), 7);
        }
    }

    // "turns, life, day, mood always"; each word from its least to its most
    private static void wordsAtTheirBounds() {
        for (int most = 0; most < 2; most++) {
            WoundTown x = new WoundTown();
            for (int p = 0; p < 6; p++) x.person(most * 9, 0);
            Due.force(x, "wears 999");
            if (most == 0) {
                x.wind(0);
                x.run();
                x.wind(0);
            } else {
                x.mend(9999);
                x.key(5, 9);
            }
            x.terms(0, most * 999);
            x.terms(2, most * 9);
            int turns = most * 12;
            String always = "turns = " + turns + " and day = " + most * 999 + " and mood = " + most * 9
                    + " and life = " + (most == 0 ? "0" : "1000 * 10 - 1");
            Due.force(x, "wears 7 if " + always + "; snaps 8 if " + always);
            Due.due("wears at " + most, x.asks(turns, 0), 7);
            Due.due("snaps at " + most, x.asks(turns, 1), 8);
            Due.force(x, "runs 9 if power = turns * 100 and " + always + "; speeds 10 if person = " + most * 5
                    + " and oil = " + most * 9 + " and little = " + most * 9 + " and hour = " + most * 23
                    + " and " + always);
            Due.due("runs at " + most, x.hour(turns, 1, 0), most == 0 ? 0 : 1191);
            Due.due("speeds at " + most, x.hour(turns, most * 23, 1 + most * 5), 10);
        }
    }

    // "A LAW is in FORCE (NONE: none): which was. -2."; "NONE at first: no CLAUSE"
    private static void lawInForce() {
        WoundTown x = new WoundTown();
        Due.due("at first", x.count(11), -1);
        Due.refused(x, "force(0) without laws", x.force(0), -2);
        Due.answered(x, "force(NONE)", x.force(-1), -1);
        Edge.taken("the first", Edge::rich, y -> y.force(0), 0);
        Edge.taken("the last", Edge::rich, y -> y.force(1), 0);
        Edge.taken("none", Edge::rich, y -> y.force(-1), 0);
        for (int law : new int[] {LOW, -2, 2, 6, HIGH}) {
            Edge.refused("force(" + law + ")", Edge::rich, y -> y.force(law), -2);
        }
    }

    // "Of TURNS today what they WEAR (what 0), what the SPRING SNAPS with (1). NONE."
    private static void asksOfTurns() {
        Edge.asked("asks(0, 0)", Edge::rich, x -> x.asks(0, 0), 1);
        Edge.asked("asks(12, 0)", Edge::rich, x -> x.asks(12, 0), 13);
        Edge.asked("asks(12, 1)", Edge::rich, x -> x.asks(12, 1), 12);
        for (int turns : new int[] {LOW, -1, 13, HIGH}) {
            Edge.none("asks(" + turns + ", 0)", Edge::rich, x -> x.asks(turns, 0));
            Edge.none("asks(" + turns + ", 1)", Edge::rich, x -> x.asks(turns, 1));
        }
        for (int what : new int[] {LOW, -1, 2, HIGH}) {
            Edge.none("asks(5, " + what + ")", Edge::rich, x -> x.asks(5, what));
        }
    }

    private static WoundTown town() {
        WoundTown x = new WoundTown();
        x.person(5, 0);
        x.person(6, 0);
        x.work(0, 40, 23, 1, -1);
        x.work(1, 600, 23, 1, -1);
        return x;
    }

    private static void run(WoundTown x, String text, int want) {
        Due.tape(x, text);
        Due.answered(x, "orders \"" + text + "\"", x.orders(), want);
        Due.due("\"" + text + "\": stopped()", x.stopped(), -1);
    }

    // "each as often as TIMES tell (once without)"
    private static void twentyTimes() {
        WoundTown x = town();
        run(x, "mend 1", 1);
        run(x, "mend 1 times 1", 1);
        run(x, "mend 1 times 20", 20);
        run(x, Edge.repeated("mend 1 times 20;", 11) + "mend 1 times 20", 240);
        Due.due("life", x.count(12), 1262);
    }

    // "each time its "if" is asked (not run, if it is not so or BROKEN)"
    private static void notSoOrBroken() {
        WoundTown x = town();
        run(x, "mend 1 if 1 = 2", 0);
        run(x, "mend 1 if 1 / 0 = 1", 0);
        run(x, "mend 1 if " + MUCH + " + 1 > 0", 0);
        run(x, "mend 1 times 20 if done < 7", 7);
        run(x, "mend 1 times 5 if 1 / [done - 2] < 1", 2);
        run(x, "run times 20 if turns > 0 - 1", 0);
        run(x, "mend 1 / 0 if 1 = 2", 0);
        run(x, "mend 1 / 0 if 1 = 2; mend 1; key 1 / 0 by 1 / 0 if 1 = 2; run if 1 = 2; wind 0", 2);
        Due.due("life", x.count(12), 1010);
    }

    // "then its SUMS from the left"
    private static void sumsFromTheLeft() {
        WoundTown x = town();
        run(x, "key 0 by 1;key little 0 by little 0 + 1;key little 0 by little 0 + 2", 3);
        Due.due("little 0", x.of(0, 2), 1);
        Due.due("little 1", x.of(1, 2), 2 + 3);
    }

    // "turns: of today (-1: not WOUND), done: .., ended: .. (-1: none), little: of a PERSON, left: .. (-1: no such)"
    private static void wordsOfOrders() {
        WoundTown x = town();
        run(x, "mend 1 if turns = 0 - 1 and done = 0 and ended = 0 - 1 and day = 0 and life = 1000", 1);
        run(x, "wind 0;key 0 by 1 if turns = 0 and done = 1", 2);
        run(x, "key 0 by 1 if little 0 = 1 and little 1 = 0 and little 2 = 0 - 1 and little 5 = 0 - 1", 1);
        run(x, "key 0 by 1 if left 0 = 40 and left 1 = 600 and left 2 = 0 - 1 and left 9 = 0 - 1", 1);
        run(x, "run;mend 1 if ended = 1 and left 0 = 0 and turns = 0 - 1 and day = 1", 2);
        run(x, "mend 1 if ended = 0 - 1", 1);
        run(x, "wind 5;run;mend 1 if ended = 0;key 0 by 1 if ended = 0", 4);
        WoundTown full = new WoundTown();
        for (int p = 0; p < 6; p++) full.person(0, 0);
        for (int w = 0; w < 10; w++) full.work(0, w + 1, 0, 1, -1);
        full.key(5, 9);
        run(full, "mend 1 if little 5 = 9 and little 4 = 0 and left 9 = 10 and left 0 = 1", 1);
    }

    private static void stops(Edge.Setting setting, String text, int clause) {
        Edge.Setting fed = x -> {
            setting.of(x);
            Due.tape(x, text);
        };
        Edge.refusedBut("orders \"" + text + "\"", fed, x -> x.orders(), -3, x -> x.end(0), "stopped()", "fault()");
        WoundTown x = new WoundTown();
        fed.of(x);
        x.orders();
        Due.due("orders \"" + text + "\": stopped()", x.stopped(), clause);
        Due.due("orders \"" + text + "\": fault()", x.fault(), -1);
    }

    private static void stops(String text, int clause) {
        stops(Edge::rich, text, clause);
    }

    // "One that can't be (a BROKEN SUM, as wind(), key(), run(), mend() are REFUSED) ends it: all is as it was .."
    private static void whichCanNotBe() {
        stops("wind 13", 0);
        stops("wind 0 - 1", 0);
        stops("wind " + MUCH, 0);
        stops("wind 1 / 0", 0);
        stops("wind 1; wind 1", 1);
        stops(Edge::wound, "wind 1", 0);
        stops("key 0 by 0", 0);
        stops("key 0 by 10", 0);
        stops("key 0 by 0 - 1", 0);
        stops("key 2 by 1", 0);
        stops("key 0 - 1 by 1", 0);
        stops("key " + MUCH + " by 1", 0);
        stops("key 1 / 0 by 1", 0);
        stops("key 0 by 1 / 0", 0);
        stops("key 1 by 9", 0);
        stops("key 0 by 8; key 0 by 1", 0);
        stops("key 1 by 8; key 1 by 1", 1);
        stops("run", 0);
        stops("wind 1; run; run", 2);
        stops("mend 0", 0);
        stops("mend 0 - 1", 0);
        stops("mend 1000 * 10", 0);
        stops("mend 1 / 0", 0);
        stops("mend " + MUCH + " + 1", 0);
        stops(Edge::wound, "mend 1", 0);
        stops("mend 1; wind 3; key 1 by 2; run; mend 5; key 0 by 1; run", 6);
        stops(x -> {
            Edge.rich(x);
            x.terms(0, 6);
        }, "wind 9", 0);
        stops(x -> {
            Edge.rich(x);
            x.terms(0, 998);
        }, "wind 1; run; wind 1; run", 3);
        stops(x -> {
            Edge.rich(x);
            Due.force(x, "wears 999");
        }, "mend 1000; wind 1; run; wind 1; wind 1", 4);
    }

    // "Which CLAUSE (0 on) of the latest orders() could not be."
    private static void clauseThatStops() {
        for (int clause = 0; clause < 12; clause++) {
            stops(Edge.repeated("mend 1;", clause) + "run" + Edge.repeated(";mend 1", 11 - clause), clause);
        }
        stops("mend 1; mend 2 - done times 5; mend 1", 1);
        stops("mend 1 if 1 = 2; run if 1 = 1", 1);
        stops("mend 19 - done times 20", 0);
        WoundTown x = new WoundTown();
        run(x, "mend 20 - done times 20", 20);
    }

    // "NONE (that was done, or REFUSED by -6; ahead of any)."
    private static void none() {
        WoundTown x = town();
        Due.due("ahead of any", x.stopped(), -1);
        Due.orders(x, "mend");
        Due.due("refused by -6", x.stopped(), -1);
        Due.orders(x, "mend 1;run");
        Due.due("could not be", x.stopped(), 1);
        Due.orders(x, "mend");
        Due.due("refused by -6", x.stopped(), -1);
        Due.orders(x, "run");
        Due.due("could not be", x.stopped(), 0);
        Due.orders(x, "");
        Due.due("an empty text", x.stopped(), -1);
        Due.orders(x, "mend 1;mend 1;run");
        Due.due("could not be", x.stopped(), 2);
        Due.law(x, "bars ?");
        x.run();
        Due.due("others leave it", x.stopped(), 2);
        Due.orders(x, "run if 1 = 2");
        Due.due("none was run", x.stopped(), -1);
    }

    // "(by ORDERS, too; 16 are kept)"
    private static void sixteenOfOrders() {
        WoundTown x = town();
        x.mend(100);
        run(x, "mend 1 times 15", 15);
        Due.due("count(4)", x.count(4), 16);
        run(x, "mend 1", 1);
        Due.due("count(4)", x.count(4), 16);
        for (int n = 16; n > 0; n--) {
            Due.due("life", x.count(12), 1100 + n);
            Due.answered(x, "undo()", x.undo(), 3);
        }
        Due.refused(x, "undo()", x.undo(), -3);
        Due.due("life", x.count(12), 1100);
        Edge.Setting sixteen = y -> {
            Edge.rich(y);
            for (int n = 1; n <= 16; n++) y.mend(n);
        };
        stops(sixteen, "mend 1 times 20;wind 1;run;run", 3);
    }
}
