/** Promises 14 to 16: orders, fault, stopped; the language of orders (Terms II). */
public final class OrdersTest {
    public static void main(String[] args) {
        plain();
        wholly();
        ifs();
        words();
        times();
        faults();
        bounds();
        stopped();
        refusedWithin();
        undone();
        Due.finish();
    }

    private static WoundTown town() {
        WoundTown x = new WoundTown();
        x.person(5, 0);
        x.person(6, 0);
        x.work(0, 50, 23, 1, -1);
        x.work(1, 600, 23, 1, -1);
        return x;
    }

    private static void run(WoundTown x, String text, int want) {
        Due.tape(x, text);
        if (want < 0) {
            Due.refused(x, "orders \"" + text + "\"", x.orders(), want);
        } else {
            Due.answered(x, "orders \"" + text + "\"", x.orders(), want);
            Due.due("fault() of \"" + text + "\"", x.fault(), -1);
            Due.due("stopped() of \"" + text + "\"", x.stopped(), -1);
        }
        Due.due("the tape behind \"" + text + "\"", x.count(5), 0);
    }

    private static void plain() {
        WoundTown x = town();
        run(x, "wind 5;run", 2);
        Due.due("life", x.count(12), 975);
        Due.due("day", x.count(15), 1);
        run(x, "mend 25", 1);
        Due.due("life", x.count(12), 1000);
        run(x, "key 1 by 2 ; key 0 by 9", 2);
        Due.due("little of 1", x.of(1, 2), 2);
        Due.due("little of 0", x.of(0, 2), 9);
        Due.due("count(4)", x.count(4), 5);
    }

    private static void wholly() {
        WoundTown x = town();
        x.key(0, 1);
        run(x, "wind 5;key 0 by 3;run;mend 30;mend 0", -3);
        Due.due("stopped()", x.stopped(), 4);
        Due.due("fault()", x.fault(), -1);
        Due.due("life", x.count(12), 1000);
        Due.due("day", x.count(15), 0);
        Due.due("turns", x.count(14), -1);
        Due.due("little", x.of(0, 2), 1);
        Due.due("oil", x.of(0, 0), 5);
        Due.due("done", x.at(0, 5), 0);
        Due.due("count(4)", x.count(4), 1);
        Due.due("one refused by -3", x.count(8), 1);
        Due.due("none by -1 for what is within", x.count(6), 0);
        Due.answered(x, "undo()", x.undo(), 1);
        Due.due("little", x.of(0, 2), 0);
    }

    private static void ifs() {
        WoundTown x = town();
        run(x, "mend 1 if 1 = 2;mend 2 if 1 / 0 = 0;mend 4 if 1 = 1;mend 8 if not 1 = 1", 1);
        Due.due("life", x.count(12), 1004);
        run(x, "mend 1 / 0 if 1 = 2", 0);
        run(x, "mend 1 / 0", -3);
        run(x, "mend 1000 * 1000 * [1000 + 1]", -3);
        run(x, "key 0 by 1 % 0", -3);
        run(x, "key 1 / 0 by 1", -3);
        Due.due("life", x.count(12), 1004);
    }

    private static void words() {
        WoundTown x = town();
        run(x, "mend 1 if turns = 0 - 1 and ended = 0 - 1 and done = 0 and day = 0 and life = 1000", 1);
        x.terms(0, 3);
        run(x, "wind 4; mend 1 if 1 = 2; key 0 by 1 if turns = 4 and done = 1 and day = 3 and life = 985", 2);
        run(x, "key 1 by 2 if little 0 = 1 and little 1 = 0 and little 2 = 0 - 1 and little 5 = 0 - 1", 1);
        run(x, "key 1 by 1 if left 0 = 50 and left 1 = 600 and left 2 = 0 - 1 and left 9 = 0 - 1", 1);
        run(x, "run;key 1 by 1 if ended = 1 and turns = 0 - 1 and day = 4 and left 0 = 0 and left 1 = 86", 2);
        run(x, "key 1 by 1 if ended = 0 - 1", 1);
        run(x, "wind 0;run;wind 0;run;key 1 by 1 if ended = 0 and done = 4", 5);
        Due.due("little 1", x.of(1, 2), 3);
        x = town();
        run(x, "wind 5;run;mend 1 if ended = 1;wind 0;run;mend 5 if ended = 0", 6);
    }

    private static void times() {
        WoundTown x = town();
        run(x, "mend 1 times 20", 20);
        Due.due("life", x.count(12), 1020);
        run(x, "run times 1 if 1 = 2", 0);
        run(x, "mend 1 times 020 if done < 3", 3);
        Due.due("life", x.count(12), 1023);
        run(x, "mend done + 1 times 3", 3);
        Due.due("life", x.count(12), 1029);
        run(x, "mend life % 2 + 1 times 5 if life - 1000 < 32", 2);
        Due.due("life: its if and sum are asked each time", x.count(12), 1033);
        run(x, "key 0 by 4 times 3", -3);
        Due.due("stopped()", x.stopped(), 0);
        Due.due("little 0", x.of(0, 2), 0);
    }

    private static void faultAt(String text, int at) {
        WoundTown x = town();
        x.key(0, 1);
        Due.tape(x, text);
        Due.refused(x, "orders \"" + text + "\"", x.orders(), -6);
        Due.due("fault() of \"" + text + "\"", x.fault(), at);
        Due.due("stopped() of \"" + text + "\"", x.stopped(), -1);
        Due.due("count(4) of \"" + text + "\"", x.count(4), 1);
        Due.due("the tape behind \"" + text + "\"", x.count(5), 0);
    }

    private static void faults() {
        faultAt("", 0);
        faultAt("   ", 3);
        faultAt("runs 1", 0);
        faultAt("wind", 4);
        faultAt("wind;", 4);
        faultAt("wind 1 by 2", 7);
        faultAt("key 1", 5);
        faultAt("key by 1", 4);
        faultAt("key 1 by", 8);
        faultAt("key 1 by by", 9);
        faultAt("run 1", 4);
        faultAt("run;", 4);
        faultAt("run times", 9);
        faultAt("run times 0", 10);
        faultAt("run times 21", 10);
        faultAt("run times day", 10);
        faultAt("run times 2 times 2", 12);
        faultAt("run times 2 + 1", 12);
        faultAt("run if 1 = 1 times 2", 13);
        faultAt("mend", 4);
        faultAt("mend power", 5);
        faultAt("mend little", 11);
        faultAt("mend little day", 12);
        faultAt("mend little 6", 12);
        faultAt("mend little [1]", 12);
        faultAt("mend left 10", 10);
        faultAt("mend left - 1", 10);
        faultAt("mend ended 1", 11);
        faultAt("mend 1001", 5);
        faultAt("bars", 0);
        faultAt("runz", 0);
        faultAt("azrun", 0);
    }

    private static String repeated(String text, int times) {
        StringBuilder all = new StringBuilder();
        for (int i = 0; i < times; i++) all.append(text);
        return all.toString();
    }

    private static void bounds() {
        WoundTown x = town();
        run(x, repeated("mend 1;", 11) + "mend 1", 12);
        faultAt(repeated("mend 1;", 12) + "mend 1", 84);
        run(x, "mend " + repeated("1+", 49) + "1", 1);
        faultAt("mend " + repeated("1+", 50) + "1", 105);
        run(x, "mend " + repeated("little 1+", 39) + repeated("1+", 10) + "1 times 3", 3);
        faultAt("mend " + repeated("1+", 50) + "left 3", 105);
        run(x, "mend 1 if " + repeated("(", 8) + "1=1" + repeated(")", 8), 1);
        faultAt("mend 1 if " + repeated("(", 9) + "1=1" + repeated(")", 9), 18);
        run(x, "mend left 09 + 2;mend left 0009 + 2", 2);
    }

    private static void stopped() {
        WoundTown x = town();
        Due.due("stopped() ahead of any", x.stopped(), -1);
        run(x, "mend 1;mend 1 times 5;run", -3);
        Due.due("stopped()", x.stopped(), 2);
        x.image(0);
        Due.law(x, "bars");
        Due.due("stopped() behind a law()", x.stopped(), 2);
        run(x, "run;mend 1", -3);
        Due.due("stopped()", x.stopped(), 0);
        x.back(0);
        Due.due("images do not keep it", x.stopped(), 0);
        run(x, "mend", -6);
        Due.due("stopped() behind -6", x.stopped(), -1);
        run(x, "run", -3);
        Due.due("stopped()", x.stopped(), 0);
        run(x, "mend 1", 1);
    }

    private static void refusedWithin() {
        WoundTown x = town();
        run(x, "wind 13", -3);
        run(x, "wind 0 - 1", -3);
        run(x, "wind 1;wind 1", -3);
        Due.due("stopped()", x.stopped(), 1);
        run(x, "wind 1;mend 1", -3);
        run(x, "key 2 by 1", -3);
        run(x, "key 0 - 1 by 1", -3);
        run(x, "key 0 by 0", -3);
        run(x, "key 0 by 10", -3);
        run(x, "mend 0", -3);
        run(x, "mend 1000 * 10", -3);
        run(x, "run", -3);
        Due.due("count(8)", x.count(8), 11);
        Due.due("count(6)", x.count(6), 0);
        Due.due("count(7)", x.count(7), 0);
        Due.force(x, "bars if little > 3");
        run(x, "key 0 by 2;key 0 by 2", -3);
        x.terms(0, 6);
        run(x, "wind 8", -3);
        run(x, "wind 7", 1);
    }

    private static void undone() {
        WoundTown x = town();
        run(x, "mend 1 times 20", 20);
        Due.due("16 are kept", x.count(4), 16);
        run(x, "mend 1 times 5;run", -3);
        for (int i = 0; i < 16; i++) {
            Due.due("life", x.count(12), 1020 - i);
            Due.answered(x, "undo()", x.undo(), 3);
        }
        Due.due("life", x.count(12), 1004);
        Due.refused(x, "undo()", x.undo(), -3);
        run(x, "key 0 by 1 times 4", 4);
        run(x, "mend 1 times 16", 16);
        run(x, "key 0 by 1 times 5;run", -3);
        for (int i = 0; i < 16; i++) Due.answered(x, "undo()", x.undo(), 3);
        Due.refused(x, "undo()", x.undo(), -3);
        x.oil(0, 5);
        run(x, "wind 3;key 0 by 2;run;mend 7", 4);
        Due.answered(x, "undo()", x.undo(), 3);
        Due.answered(x, "undo()", x.undo(), 2);
        Due.due("done", x.at(0, 5), 0);
        Due.due("turns", x.count(14), 3);
        Due.answered(x, "undo()", x.undo(), 1);
        Due.answered(x, "undo()", x.undo(), 0);
        Due.due("life", x.count(12), 1004);
    }
}
