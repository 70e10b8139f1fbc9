/** Promises 13, 15, 17, 18: law, fault, force, asks; the language of laws (Terms II). */
public final class LawTest {
    public static void main(String[] args) {
        numbers();
        room();
        force();
        asksWithoutLaw();
        asks();
        faults();
        bounds();
        sums();
        tests();
        broken();
        lastThatHolds();
        words();
        runsAndSpeeds();
        bars();
        manyTexts();
        Due.finish();
    }

    private static void numbers() {
        WoundTown x = new WoundTown();
        Due.tape(x, "wears 1");
        Due.answered(x, "law()", x.law(), 0);
        Due.due("the tape is empty", x.count(5), 0);
        Due.due("fault()", x.fault(), -1);
        Due.due("count(3)", x.count(3), 1);
        Due.due("a law is not in force by itself", x.count(11), -1);
        Due.tape(x, "wears");
        Due.refused(x, "law()", x.law(), -6);
        Due.due("the tape is empty", x.count(5), 0);
        Due.due("fault()", x.fault(), 5);
        Due.due("count(3)", x.count(3), 1);
        Due.tape(x, "wears 2");
        Due.answered(x, "law()", x.law(), 1);
        Due.due("fault() without", x.fault(), -1);
    }

    private static void room() {
        WoundTown x = new WoundTown();
        for (int n = 0; n < 6; n++) {
            Due.due("law " + n, Due.law(x, "wears " + n), n);
        }
        x.orders();
        Due.tape(x, "wears 1 ?");
        Due.refused(x, "the seventh", x.law(), -5);
        Due.due("the tape is empty", x.count(5), 0);
        Due.due("it was not read: fault()", x.fault(), 0);
        for (int n = 0; n < 6; n++) {
            x.force(n);
            Due.due("asks(12, 0) by law " + n, x.asks(12, 0), n);
        }
    }

    private static void force() {
        WoundTown x = new WoundTown();
        Due.refused(x, "force(0)", x.force(0), -2);
        Due.answered(x, "force(-1)", x.force(-1), -1);
        Due.law(x, "wears 3");
        Due.law(x, "wears 4");
        Due.answered(x, "force(1)", x.force(1), -1);
        Due.answered(x, "force(0)", x.force(0), 1);
        Due.refused(x, "force(2)", x.force(2), -2);
        Due.refused(x, "force(-2)", x.force(-2), -2);
        Due.refused(x, "force(6)", x.force(6), -2);
        Due.due("count(11)", x.count(11), 0);
        Due.due("asks(5, 0)", x.asks(5, 0), 3);
        Due.answered(x, "force(-1)", x.force(-1), 0);
        Due.due("asks(5, 0)", x.asks(5, 0), 25);
    }

    private static void asksWithoutLaw() {
        WoundTown x = new WoundTown();
        for (int turns = 0; turns <= 12; turns++) {
            Due.due("asks(" + turns + ", 0)", x.asks(turns, 0), turns * turns);
            Due.due("asks(" + turns + ", 1)", x.asks(turns, 1), turns > 9 ? (turns - 9) * 10 : 0);
        }
        Due.due("asks(13, 0)", x.asks(13, 0), -1);
        Due.due("asks(-1, 0)", x.asks(-1, 0), -1);
        Due.due("asks(1, 2)", x.asks(1, 2), -1);
        Due.due("asks(1, -1)", x.asks(1, -1), -1);
        Due.due("asks is not among what status() tells", x.status(), 0);
    }

    private static void asks() {
        WoundTown x = new WoundTown();
        Due.force(x, "wears turns * 100; snaps turns * 10");
        Due.due("asks(9, 0)", x.asks(9, 0), 900);
        Due.due("asks(10, 0): the nearest", x.asks(10, 0), 999);
        Due.due("asks(10, 1)", x.asks(10, 1), 100);
        Due.due("asks(11, 1): the nearest", x.asks(11, 1), 100);
        Due.force(x, "wears turns - 5; snaps turns - 5");
        Due.due("asks(4, 0): the nearest", x.asks(4, 0), 0);
        Due.due("asks(4, 1): the nearest", x.asks(4, 1), 0);
        Due.due("asks(6, 1)", x.asks(6, 1), 1);
    }

    private static void faultAt(String text, int at) {
        WoundTown x = new WoundTown();
        Due.tape(x, text);
        Due.refused(x, "law \"" + text + "\"", x.law(), -6);
        Due.due("fault() of \"" + text + "\"", x.fault(), at);
        Due.due("count(3) behind \"" + text + "\"", x.count(3), 0);
    }

    private static void sound(String text) {
        WoundTown x = new WoundTown();
        Due.tape(x, text);
        Due.answered(x, "law \"" + text + "\"", x.law(), 0);
        Due.due("fault() of \"" + text + "\"", x.fault(), -1);
    }

    private static void faults() {
        faultAt("", 0);
        faultAt("     ", 5);
        faultAt("run 1", 0);
        faultAt("  wind 1", 2);
        faultAt("Runs 1", 0);
        faultAt("runs;", 4);
        faultAt("runs 1;", 7);
        faultAt("runs 1; ;", 8);
        faultAt("runs 1 1", 7);
        faultAt("runs 1 2 if", 7);
        faultAt("runs if", 5);
        faultAt("runs - 1", 5);
        faultAt("runs 1 +", 8);
        faultAt("runs 1 + +", 9);
        faultAt("runs 1 & 2", 7);
        faultAt("runs (1)", 5);
        faultAt("runs [1)", 7);
        faultAt("runs [1", 7);
        faultAt("runs []", 6);
        faultAt("runs 1]", 6);
        faultAt("runs [1 < 2]", 8);
        faultAt("runs 1001", 5);
        faultAt("runs 99999999999999999999999999", 5);
        faultAt("runs 1.5", 6);
        faultAt("runs\t1", 4);
        faultAt("runs done", 5);
        faultAt("runs little 1", 12);
        faultAt("runs powers", 5);
        faultAt("runs pow", 5);
        faultAt("runs 1 if", 9);
        faultAt("runs 1 if 1", 11);
        faultAt("runs 1 if 1 1", 12);
        faultAt("runs 1 if 1 < 2 < 3", 16);
        faultAt("runs 1 if 1 = 1 and", 19);
        faultAt("runs 1 if 1 = 1 or or", 19);
        faultAt("runs 1 if 1 = 1 not", 16);
        faultAt("runs 1 if not", 13);
        faultAt("runs 1 if (1 = 1", 16);
        faultAt("runs 1 if (1 = 1]", 16);
        faultAt("runs 1 if (1) = 1", 12);
        faultAt("runs 1 if 1 = 1)", 15);
        faultAt("runs 1 if (1 = 1) = 1", 18);
        faultAt("runs 1 if (1 = 1) + 1", 18);
        faultAt("runs 1 if 1 = (1 = 1)", 14);
        faultAt("runs 1 if 1 = 1 if 2 = 2", 16);
        faultAt("runs 1 if 1 == 1", 13);
        faultAt("runs 1 times 2", 7);
        faultAt("bars 1", 5);
        faultAt("bars if", 7);
        faultAt("runs 1 wears 1", 7);
        faultAt("runs 1 if 1 = 1 \u00e9", 16);
        sound("runs1");
        sound("runs0001000;bars");
        sound("  runs  [ 1+2 ]*[3]%oil  if  not(1<2)or not not 2>1and 3=3  ");
        sound("bars;bars if turns=1;runs turns;speeds power;wears life;snaps mood");
        sound("runs person-hour/day*little");
    }

    private static String repeated(String text, int times) {
        StringBuilder all = new StringBuilder();
        for (int i = 0; i < times; i++) all.append(text);
        return all.toString();
    }

    private static void bounds() {
        sound(repeated("bars;", 11) + "bars");
        faultAt(repeated("bars;", 12) + "bars", 60);
        faultAt(repeated("bars;", 12) + "  ?", 62);
        faultAt(repeated("bars;", 12), 60);
        sound("runs " + repeated("[", 8) + "1" + repeated("]", 8));
        faultAt("runs " + repeated("[", 9) + "1" + repeated("]", 9), 13);
        sound("bars if " + repeated("(", 8) + "1=1" + repeated(")", 8));
        faultAt("bars if " + repeated("(", 9) + "1=1" + repeated(")", 9), 16);
        sound("bars if " + repeated("(", 5) + repeated("[", 3) + "1" + repeated("]", 3) + "=1" + repeated(")", 5));
        faultAt("bars if " + repeated("(", 5) + repeated("[", 4) + "1" + repeated("]", 4) + "=1" + repeated(")", 5), 16);
        sound("runs " + repeated("[1]+", 20) + "1");
        sound("runs " + repeated("1+", 49) + "1");
        faultAt("runs " + repeated("1+", 50) + "1", 105);
        faultAt("runs " + repeated("1+", 50) + "oil", 105);
        sound("runs " + repeated("oil+", 49) + "1");
        sound("runs " + repeated("1+", 24) + "1;speeds " + repeated("1+", 24) + "1;bars");
        faultAt("runs " + repeated("1+", 24) + "1;speeds " + repeated("1+", 25) + "1", 112);
        sound("bars if " + repeated("not ", 97) + "1=1");
        sound("runs 1" + repeated(" ", 394));
        sound("bars if " + repeated("1=1or ", 24) + "1=1");
    }

    /** What the sum comes to, as wear by 12 turns: 0 .. 999. */
    private static void sumIs(String sum, int want) {
        WoundTown x = new WoundTown();
        Due.force(x, "wears " + sum);
        Due.due("\"" + sum + "\"", x.asks(12, 0), want);
    }

    private static void sums() {
        sumIs("1 + 2 * 3", 7);
        sumIs("[1 + 2] * 3", 9);
        sumIs("20 - 5 - 3", 12);
        sumIs("20 - [5 - 3]", 18);
        sumIs("100 / 5 / 2", 10);
        sumIs("100 / [5 / 2]", 50);
        sumIs("17 % 5 * 2", 4);
        sumIs("2 * 17 % 5", 4);
        sumIs("7 / 2", 3);
        sumIs("100 + [0 - 7] / 2", 97);
        sumIs("100 + [0 - 7] % 2", 99);
        sumIs("100 + 7 % [0 - 2]", 101);
        sumIs("100 + 7 / [0 - 2]", 97);
        sumIs("1000 - 1", 999);
        sumIs("1000 * 1000 * 1000 / 1000 / 1000 - 500", 500);
        sumIs("[0 - 1000] * 1000 * 1000 / 1000 / 1000 + 1000 + 500", 500);
        sumIs("turns*turns+1", 145);
    }

    /** Whether the test is so: then wear by 12 turns is 1, not 144. */
    private static void testIs(String test, boolean so) {
        WoundTown x = new WoundTown();
        Due.force(x, "wears 1 if " + test);
        Due.due("\"" + test + "\"", x.asks(12, 0), so ? 1 : 144);
    }

    private static void tests() {
        testIs("1 < 2", true);
        testIs("2 < 2", false);
        testIs("2 > 1", true);
        testIs("2 > 2", false);
        testIs("2 = 2", true);
        testIs("2 = 1", false);
        testIs("1 = 1 or 1 = 2 and 1 = 2", true);
        testIs("(1 = 1 or 1 = 2) and 1 = 2", false);
        testIs("1 = 2 and 1 = 2 or 1 = 1", true);
        testIs("1 = 2 or 1 = 2 or 1 = 1", true);
        testIs("1 = 1 and 1 = 1 and 1 = 2", false);
        testIs("not 1 = 2", true);
        testIs("not 1 = 1 or 1 = 1", true);
        testIs("not (1 = 1 or 1 = 1)", false);
        testIs("not not 1 = 1", true);
        testIs("not not not 1 = 1", false);
        testIs("not (not 1 = 1)", true);
        testIs("not (not (not 1 = 1))", false);
        testIs("not 1 = 1 and 1 = 2", false);
        testIs("1 + 1 = 4 / 2", true);
        testIs("((1 = 1) and ([1] = 1))", true);
        testIs("1 = 1 and 1 = 2 or not (1 = 2) and 1 = 1", true);
    }

    private static void broken() {
        sumIs("1000 * 1000 * 1000 + 1", 144);
        sumIs("0 - 1000 * 1000 * 1000 - 1", 144);
        sumIs("1000 * 1000 * 1000 * 0", 0);
        sumIs("[1000 * 1000 * 1000 + 1] * 0", 144);
        sumIs("1000 * 1000 * [1000 + 1] - 1000 * 1000 * 1000", 144);
        sumIs("1 / 0", 144);
        sumIs("1 % 0", 144);
        sumIs("0 / 0", 144);
        sumIs("1 + 5 / [turns - 12]", 144);
        testIs("1 / 0 = 1", false);
        testIs("not 1 / 0 = 1", false);
        testIs("1 = 1 % 0", false);
        testIs("1 = 1 or 1 / 0 = 1", true);
        testIs("1 / 0 = 1 or 1 = 1", false);
        testIs("1 = 2 or 1 / 0 = 1 or 1 = 1", false);
        testIs("not (1 = 2 and 1 / 0 = 1)", true);
        testIs("not (1 / 0 = 1 and 1 = 2)", false);
        testIs("1 = 2 and 1 / 0 = 1 or 1 = 1", true);
        testIs("1 = 1 and (1 = 1 or 1 / 0 = 1)", true);
        testIs("1 = 1 or 1 = 1 and 1 / 0 = 1", true);
    }

    private static void lastThatHolds() {
        sumIs("1; wears 2; wears 3", 3);
        sumIs("1; wears 2; wears 3 if turns < 12", 2);
        sumIs("1; wears 2 / 0; snaps 3; runs 4; speeds 5; bars", 1);
        sumIs("1; wears 2 if 1 / 0 = 0", 1);
        sumIs("1 if 1 = 2; wears 2 if 1 = 2", 144);
    }

    /** Each word of "wears" and "snaps": power, hour, person, oil, little are -1. */
    private static void words() {
        WoundTown x = new WoundTown();
        x.person(3, 0);
        x.key(0, 4);
        x.terms(0, 40);
        x.terms(2, 6);
        String[] words = {"turns", "power", "hour", "person", "oil", "little", "life", "day", "mood"};
        int[] want = {8, -1, -1, -1, -1, -1, 500, 40, 6};
        Due.law(x, "wears 500");
        x.force(0);
        x.wind(3);
        Due.due("life", x.count(12), 500);
        x.image(0);
        for (int w = 0; w < words.length; w++) {
            x.back(0);
            Due.force(x, "wears " + words[w] + " + 1; snaps 50 if " + words[w] + " = " + (want[w] < 0 ? "0 - 1" : want[w]));
            x.hour(8, 5, 1);
            Due.due(words[w] + " of wears", x.asks(8, 0), want[w] + 1);
            x.hour(8, 5, 1);
            Due.due(words[w] + " of snaps", x.asks(8, 1), 50);
        }
    }

    private static void runsAndSpeeds() {
        WoundTown x = new WoundTown();
        x.person(3, 0);
        x.person(7, 0);
        x.key(1, 2);
        x.terms(0, 5);
        x.terms(2, 4);
        Due.force(x, "runs hour if hour < 3; runs 1000 if hour = 4; runs 0 - 5 if hour = 3");
        int[] power = {700, 700, 699, 697, 697, 0, 0};
        for (int h = 0; h < power.length; h++) Due.due("power at " + h, x.hour(7, h, 0), power[h]);
        Due.force(x, "runs 1000");
        Due.due("999: the nearest", x.hour(12, 1, 0), 201);
        Due.force(x, "runs 999 if person = 0 - 1 and oil = 0 - 1 and little = 0 - 1 and turns = 11 and life = 1000 "
                + "and day = 5 and mood = 4 and power = 1000 + 100");
        Due.due("the words of runs", x.hour(11, 1, 0), 101);
        Due.due("without one that holds 60", x.hour(11, 2, 0), 41);
        Due.force(x, "speeds person * 30 + oil if hour = 0; speeds 61 if hour = 1; speeds 0 - 1 if hour = 2; "
                + "speeds power / 100 + little if hour = 3; speeds turns + life / 100 + day + mood if hour = 4");
        Due.due("person 0 at 0", x.hour(10, 0, 1), 3);
        Due.due("person 1 at 0", x.hour(10, 0, 2), 37);
        Due.due("at 1: the nearest", x.hour(10, 1, 1), 60);
        Due.due("at 2: the nearest", x.hour(10, 2, 1), 0);
        Due.due("at 3, person 0", x.hour(10, 3, 1), 8);
        Due.due("at 3, person 1", x.hour(10, 3, 2), 10);
        Due.due("at 4", x.hour(10, 4, 1), 10 + 10 + 5 + 4);
        Due.due("at 5: as without", x.hour(10, 5, 2), 60);
        Due.force(x, "runs 1000; speeds 50");
        Due.due("no power, no springs: as told", x.hour(10, 2, 1), 50);
        Due.due("no power, but springs: as told", x.hour(10, 2, 2), 50);
        speedsWithoutPower();
    }

    /** What a "speeds" that HOLDS tells is so without POWER and LITTLE, too; 0 is said of what is so without one. */
    private static void speedsWithoutPower() {
        WoundTown x = new WoundTown();
        x.person(3, 0);
        Due.force(x, "runs 1000; speeds power / 20 + oil; speeds 61 if hour = 2; speeds 0 - 1 if hour = 3; "
                + "speeds 1 / power if hour = 4; speeds 7 / power if hour = 5 and oil > 9");
        Due.due("with power", x.hour(4, 0, 1), 23);
        Due.due("without, as told", x.hour(4, 1, 1), 3);
        Due.due("60 at most", x.hour(4, 2, 1), 60);
        Due.due("0 at least", x.hour(4, 3, 1), 0);
        Due.due("the one before one that is broken", x.hour(4, 4, 1), 3);
        Due.due("by 0 turns", x.hour(0, 0, 1), 3);
        Due.force(x, "speeds 40 if power > 0; speeds 40 / power");
        Due.due("with power", x.hour(1, 1, 1), 1);
        Due.due("none holds: 0", x.hour(1, 2, 1), 0);
        Due.due("none holds, by 0 turns: 0", x.hour(0, 0, 1), 0);
        x.key(0, 2);
        Due.due("none holds: by springs", x.hour(1, 2, 1), 10);
    }

    /** One text leaves nothing to the next. */
    private static void manyTexts() {
        WoundTown x = new WoundTown();
        for (int i = 0; i < 15; i++) {
            Due.law(x, "bars if " + repeated("1=1or ", 24) + "1=1;runs " + repeated("[", 8));
            Due.orders(x, "mend 1 if " + repeated("1=1and ", 23) + "1=1");
        }
        Due.due("life", x.count(12), 1015);
        Due.force(x, "wears 7");
        Due.due("asks(12, 0)", x.asks(12, 0), 7);
    }

    private static void bars() {
        WoundTown x = new WoundTown();
        x.person(3, 0);
        x.person(7, 0);
        Due.force(x, "bars if person = 1 and little > 2; bars if oil = 3 and little = 5; bars if 1 / 0 = 0");
        Due.answered(x, "key(1, 2)", x.key(1, 2), 2);
        Due.refused(x, "key(1, 1)", x.key(1, 1), -3);
        Due.answered(x, "key(0, 4)", x.key(0, 4), 4);
        Due.refused(x, "key(0, 1)", x.key(0, 1), -3);
        Due.answered(x, "key(0, 2)", x.key(0, 2), 6);
        Due.force(x, "bars if power = 0 - 1 and hour = 0 - 1 and turns = 0 and life = 1000 and day = 2 and mood = 3");
        x.terms(0, 2);
        x.terms(2, 3);
        Due.refused(x, "the words of bars", x.key(0, 1), -3);
        Due.answered(x, "wind(0)", x.wind(0), 1000);
        Due.refused(x, "wound by 0: turns are 0, too", x.key(0, 1), -3);
        x.undo();
        x.wind(2);
        Due.answered(x, "wound by 2", x.key(0, 1), 7);
        Due.force(x, "bars if turns = 2");
        Due.refused(x, "turns of today", x.key(0, 1), -3);
        Due.force(x, "bars");
        Due.refused(x, "bars without if", x.key(1, 1), -3);
        x.force(-1);
        Due.answered(x, "without a law", x.key(1, 1), 3);
    }
}
