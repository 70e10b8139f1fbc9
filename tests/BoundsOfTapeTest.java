/**
 * The boundaries that the document names for the TAPE, ROWS, TOKENS and the faults of both languages (Terms II,
 * promises 9 to 13, 15), each sentence (told above its test) on the boundary and beyond it.
 */
public final class BoundsOfTapeTest {
    private static final int LOW = Integer.MIN_VALUE;
    private static final int HIGH = Integer.MAX_VALUE;

    public static void main(String[] args) {
        fourHundredBytes();
        allBytes();
        firstBytesAlone();
        emptyRow();
        rowOfPerson();
        rowOfMinutes();
        rowOfDue();
        rowOfWorth();
        rowThatEndsWithin();
        rowWithoutRoom();
        rowOfNoneAhead();
        dustAheadOfAny();
        sixLaws();
        blanksAlone();
        blanks();
        letters();
        wholeWords();
        digits();
        singleBytes();
        twelveClauses();
        thousand();
        fiftyParts();
        partsThatDoNotCount();
        eightBrackets();
        sides();
        firstThatCanNotGoOn();
        faultAtTheEnd();
        faultOfTheLatest();
        times();
        numbersOfPeople();
        numbersOfWorks();
        wordsOfTheOther();
        Due.finish();
    }

    private static void full(WoundTown x) {
        Edge.rich(x);
        x.end(0);
        for (int n = 0; n < 400; n += 20) x.feed(n, n, n, n, n);
    }

    // "TEXTS are on a TAPE of at most 400 bytes"; "NONE, if there would be more than 400"
    private static void fourHundredBytes() {
        WoundTown x = new WoundTown();
        for (int n = 20; n <= 400; n += 20) Due.due("feed to " + n, x.feed(1, 2, 3, 4, 5), n);
        Due.due("feed to 420", x.feed(1, 2, 3, 4, 5), -1);
        Due.due("count(5)", x.count(5), 400);
        x.end(380);
        Due.due("feed from 380", x.feed(1, 2, 3, 4, 5), 400);
        x.end(381);
        Due.due("feed from 381", x.feed(1, 2, 3, 4, 5), -1);
        Due.due("count(5)", x.count(5), 381);
        Edge.none("feed of a full tape", BoundsOfTapeTest::full, y -> y.feed(1, 1, 1, 1, 1));
        Due.law(x, "bars" + Edge.repeated(" ", 396));
        Due.due("a law of 400 bytes", x.count(3), 1);
    }

    // "four of each number, the highest first"
    private static void allBytes() {
        for (int b = 0; b < 256; b++) {
            WoundTown x = new WoundTown();
            x.person(0, 0);
            int minutes = Math.max(1, b);
            x.feed(minutes << 16 | 0x0101, minutes << 16 | 0x0201, b << 24 | 0x010101, 0, 0);
            x.end(12);
            Due.answered(x, "row() with byte " + b, x.row(), b == 0 ? 3 : 2);
            Due.due("the second byte " + b, x.at(0, 1), minutes);
            Due.due("the third byte", x.at(1, 2), 2);
        }
        WoundTown y = new WoundTown();
        y.person(0, 0);
        y.feed(0x00FF0101, LOW, HIGH, -1, 0x00FF1763);
        Due.answered(y, "row() of numbers of all kinds", y.row(), 2);
        Due.due("dust()", y.dust(), 3);
        Due.due("at(1, 3)", y.at(1, 3), 99);
    }

    // "The TAPE has its first n bytes alone: n. NONE, if it has not so many, or n is below 0."
    private static void firstBytesAlone() {
        Edge.asked("end(8) of 8", Edge::rich, x -> x.end(8), 8);
        for (int n : new int[] {LOW, -1, 9, 20, 400, HIGH}) Edge.none("end(" + n + ") of 8", Edge::rich, x -> x.end(n));
        Edge.none("end(401) of 400", BoundsOfTapeTest::full, x -> x.end(401));
        Edge.asked("end(400) of 400", BoundsOfTapeTest::full, x -> x.end(400), 400);
        WoundTown x = new WoundTown();
        Due.due("end(0) of none", x.end(0), 0);
        Due.due("end(1) of none", x.end(1), -1);
        Due.tape(x, "bars;wears");
        Due.due("end(4)", x.end(4), 4);
        Due.due("end(5)", x.end(5), -1);
        Due.answered(x, "its first four", x.law(), 0);
        Due.tape(x, "bars");
        Due.due("end(0)", x.end(0), 0);
        Due.due("count(5)", x.count(5), 0);
    }

    // "-6 the TAPE is empty"
    private static void emptyRow() {
        Edge.Setting empty = x -> {
            Edge.rich(x);
            x.end(0);
        };
        Edge.refused("row() of none", empty, x -> x.row(), -6);
        WoundTown x = new WoundTown();
        x.feed(0, 0, 0, 0, 0);
        x.end(1);
        Due.answered(x, "row() of one byte", x.row(), 0);
        Due.due("dust()", x.dust(), 1);
    }

    /** One four of bytes in the rich town: whether a WORK comes of it. */
    private static void four(int person, int minutes, int due, int worth, boolean comes) {
        String what = "row of " + person + ", " + minutes + ", " + due + ", " + worth;
        WoundTown x = new WoundTown();
        Edge.rich(x);
        Due.bytes(x, new byte[] {(byte) person, (byte) minutes, (byte) due, (byte) worth});
        Due.answered(x, what, x.row(), comes ? 1 : 0);
        Due.due(what + ": dust()", x.dust(), comes ? 0 : 1);
        Due.due(what + ": count(1)", x.count(1), comes ? 5 : 4);
        Due.due(what + ": the tape is empty", x.count(5), 0);
        int[] want = {person, minutes, due, worth, -1, 0};
        for (int w = 0; w < 6; w++) Due.due(what + ": at(4, " + w + ")", x.at(4, w), comes ? want[w] : -1);
    }

    // "PERSON": one that can't be is DUST
    private static void rowOfPerson() {
        four(0, 5, 5, 5, true);
        four(1, 5, 5, 5, true);
        four(2, 5, 5, 5, false);
        four(6, 5, 5, 5, false);
        four(255, 5, 5, 5, false);
    }

    // "MINUTES (1 .. 255)"
    private static void rowOfMinutes() {
        four(0, 0, 5, 5, false);
        four(0, 1, 5, 5, true);
        four(0, 127, 5, 5, true);
        four(0, 128, 5, 5, true);
        four(0, 255, 5, 5, true);
    }

    // "DUE"
    private static void rowOfDue() {
        four(0, 5, 0, 5, true);
        four(0, 5, 23, 5, true);
        four(0, 5, 24, 5, false);
        four(0, 5, 255, 5, false);
    }

    // "WORTH"
    private static void rowOfWorth() {
        four(0, 5, 5, 0, false);
        four(0, 5, 5, 1, true);
        four(0, 5, 5, 99, true);
        four(0, 5, 5, 100, false);
        four(0, 5, 5, 255, false);
    }

    // "one within which the TAPE ends .. is DUST"
    private static void rowThatEndsWithin() {
        for (int length = 1; length <= 9; length++) {
            WoundTown x = new WoundTown();
            Edge.rich(x);
            Due.bytes(x, java.util.Arrays.copyOf(new byte[] {0, 1, 1, 1, 1, 2, 2, 2, 0}, length));
            Due.answered(x, "row() of " + length + " bytes", x.row(), length / 4);
            Due.due("dust() of " + length + " bytes", x.dust(), length % 4 > 0 ? 1 : 0);
        }
    }

    // "one for which there is no room is DUST"
    private static void rowWithoutRoom() {
        WoundTown x = new WoundTown();
        x.person(0, 0);
        byte[] all = new byte[400];
        for (int i = 0; i < 400; i += 4) all[i + 1] = all[i + 2] = all[i + 3] = (byte) (i / 4 % 20 + 1);
        Due.bytes(x, all);
        Due.answered(x, "row() of a hundred", x.row(), 10);
        Due.due("dust()", x.dust(), 90);
        Due.due("at(9, 1)", x.at(9, 1), 10);
        Due.bytes(x, new byte[] {0, 1, 1, 1});
        Due.answered(x, "row() without room", x.row(), 0);
        Due.due("dust()", x.dust(), 1);
        WoundTown y = new WoundTown();
        y.person(0, 0);
        for (int w = 0; w < 9; w++) y.work(0, 1, 1, 1, -1);
        Due.bytes(y, new byte[] {9, 1, 1, 1, 0, 2, 2, 2, 0, 3, 3, 3});
        Due.answered(y, "row() with room for one", y.row(), 1);
        Due.due("dust does not take room", y.at(9, 1), 2);
        Due.due("dust()", y.dust(), 2);
    }

    // "a WORK with none AHEAD"
    private static void rowOfNoneAhead() {
        WoundTown x = new WoundTown();
        x.person(0, 0);
        x.image(0);
        x.work(0, 1, 1, 1, -1);
        x.work(0, 1, 1, 1, 0);
        x.back(0);
        Due.bytes(x, new byte[] {0, 1, 1, 1, 0, 2, 2, 2});
        x.row();
        Due.due("at(0, 4)", x.at(0, 4), -1);
        Due.due("at(1, 4)", x.at(1, 4), -1);
    }

    // "How much DUST the latest row() had that was not REFUSED (0 ahead of any)."
    private static void dustAheadOfAny() {
        WoundTown x = new WoundTown();
        Due.due("dust() of a new object", x.dust(), 0);
        x.row();
        Due.due("dust() behind one that was refused", x.dust(), 0);
        Due.bytes(x, new byte[] {0, 0, 0, 0, 0});
        x.row();
        Due.due("dust()", x.dust(), 2);
        Due.due("dust() again", x.dust(), 2);
        x.row();
        Due.due("dust() behind one that was refused", x.dust(), 2);
    }

    private static void sixLawsOf(WoundTown x) {
        Edge.rich(x);
        for (int law = 2; law < 6; law++) Due.law(x, "wears " + law);
        Due.law(x, "wears");
        Due.tape(x, "bars");
    }

    // "LAWS, 6 at most"; "-5 (ahead of reading it; the TAPE is empty then, too)"
    private static void sixLaws() {
        WoundTown x = new WoundTown();
        for (int law = 0; law < 6; law++) Due.due("law " + law, Due.law(x, "wears " + law), law);
        Due.refused(x, "the seventh, of an empty tape", x.law(), -5);
        Due.due("count(3)", x.count(3), 6);
        Due.answered(x, "force(5)", x.force(5), -1);
        Due.due("asks(1, 0)", x.asks(1, 0), 5);
        Edge.refusedBut("a seventh law", BoundsOfTapeTest::sixLawsOf, y -> y.law(), -5, y -> y.end(0));
        Edge.Setting bad = y -> {
            sixLawsOf(y);
            Due.tape(y, "wears ?");
        };
        Edge.refusedBut("a seventh law that has a fault", bad, y -> y.law(), -5, y -> y.end(0));
    }

    /** A TEXT that can't be: -6, FAULT there, the TAPE is empty, all else is as it was. */
    private static void faultAt(boolean orders, String text, int at) {
        Edge.Setting setting = x -> {
            Edge.rich(x);
            Due.tape(x, text);
        };
        String what = (orders ? "orders \"" : "law \"") + text + "\"";
        Edge.refusedBut(what, setting, x -> orders ? x.orders() : x.law(), -6, x -> x.end(0), "fault()",
                orders ? "stopped()" : "");
        WoundTown x = new WoundTown();
        setting.of(x);
        int stopped = x.stopped();
        Due.due("it stopped before", stopped, 1);
        if (orders) x.orders();
        else x.law();
        Due.due(what + ": fault()", x.fault(), at);
        Due.due(what + ": stopped()", x.stopped(), orders ? -1 : stopped);
    }

    private static void lawFaultAt(String text, int at) {
        faultAt(false, text, at);
    }

    private static void orderFaultAt(String text, int at) {
        faultAt(true, text, at);
    }

    private static void sound(boolean orders, String text) {
        WoundTown x = new WoundTown();
        x.person(9, 0);
        x.work(0, 600, 23, 1, -1);
        Due.tape(x, text);
        int answer = orders ? x.orders() : x.law();
        Due.due("\"" + text + "\" is read", answer == -6 ? 0 : 1, 1);
        Due.due("\"" + text + "\": fault()", x.fault(), -1);
        Due.due("\"" + text + "\": the tape is empty", x.count(5), 0);
    }

    private static void lawSound(String text) {
        sound(false, text);
    }

    private static void orderSound(String text) {
        sound(true, text);
    }

    // "blanks alone: FAULT at the end"
    private static void blanksAlone() {
        for (int blanks : new int[] {0, 1, 19, 20, 399, 400}) {
            lawFaultAt(Edge.repeated(" ", blanks), blanks);
            orderFaultAt(Edge.repeated(" ", blanks), blanks);
        }
    }

    // "any blanks (32) between"
    private static void blanks() {
        lawSound("   wears   1   +   2   if   1   <   2   ;   bars   ");
        lawSound("wears 1+2if 1<2;bars");
        orderSound("  key  0  by  1  times  2  if  1  =  1  ;  mend  1  ");
        orderSound("key 0by 1times 2if 1=1;mend 1");
        lawFaultAt("we ars 1", 0);
        lawFaultAt("wears 1 0", 8);
        lawFaultAt("wears 1 o r", 8);
        for (int other : new int[] {0, 9, 10, 13, 31, 33, 160}) {
            lawFaultAt("wears" + (char) other + "1", 5);
            lawFaultAt("wears 1" + (char) other, 7);
            lawFaultAt((char) other + "wears 1", 0);
        }
    }

    // "longest rows of letters a .. z"
    private static void letters() {
        lawFaultAt("wearsturns", 0);
        lawFaultAt("wear 1", 0);
        lawFaultAt("wearss 1", 0);
        lawFaultAt("wears turnsturns", 6);
        lawFaultAt("wears turn", 6);
        lawFaultAt("wears 1 iff 1 = 1", 8);
        lawFaultAt("wears 1 if nota = 1", 11);
        lawFaultAt("z", 0);
        lawFaultAt("wears 1z", 7);
        lawFaultAt("wears a", 6);
        lawFaultAt("WEARS 1", 0);
        lawFaultAt("wears Turns", 6);
        lawFaultAt("wears tURNS", 6);
        lawFaultAt("wears`1", 5);
        lawFaultAt("wears{1", 5);
        lawFaultAt("`wears 1", 0);
        lawFaultAt("wears turns`", 11);
        lawFaultAt("wears turns{", 11);
        orderFaultAt("runn", 0);
        orderFaultAt("ru", 0);
        orderFaultAt("key 0 bya 1", 6);
        orderFaultAt("run timess 2", 4);
        orderSound("run times 2 if left 0>little 0");
        lawSound("wears 1if turns=1or 2=2and not 3=4");
    }

    /** What is no word, though it is a part of one, or one is a part of it. */
    private static String[] near(String word) {
        int last = word.length() - 1;
        String half = word.substring(0, last / 2 + 1);
        return new String[] {word.substring(1), word.substring(0, last), word.substring(last), word + word, "a" + word,
            word + "a", word.charAt(0) + word, word + word.charAt(last), half + "z" + word.substring(half.length()),
            half + half, half + "z", "z" + word.substring(1), word.substring(0, last) + "z"};
    }

    // "longest rows of letters": a word is the whole of one
    private static void wholeWords() {
        for (String word : new String[] {"turns", "power", "hour", "person", "oil", "little", "life", "day", "mood"}) {
            for (String no : near(word)) lawFaultAt("wears " + no, 6);
        }
        for (String kind : new String[] {"runs", "speeds", "wears", "snaps", "bars"}) {
            for (String no : near(kind)) lawFaultAt(no + " 1", 0);
        }
        for (String no : near("if")) lawFaultAt("wears 1 " + no + " 1 = 1", 8);
        for (String no : near("or")) lawFaultAt("bars if 1 = 1 " + no + " 1 = 1", 14);
        for (String no : near("and")) lawFaultAt("bars if 1 = 1 " + no + " 1 = 1", 14);
        for (String no : near("not")) lawFaultAt("bars if " + no + " 1 = 1", 8);
        for (String word : new String[] {"day", "turns", "life", "done", "ended"}) {
            for (String no : near(word)) orderFaultAt("mend " + no, 5);
        }
        for (String no : near("little")) orderFaultAt("mend " + no + " 1", 5);
        for (String no : near("left")) orderFaultAt("mend " + no + " 1", 5);
        for (String no : near("wind")) orderFaultAt(no + " 1", 0);
        for (String no : near("key")) orderFaultAt(no + " 1 by 1", 0);
        for (String no : near("run")) orderFaultAt(no, 0);
        for (String no : near("mend")) orderFaultAt(no + " 1", 0);
        for (String no : near("by")) orderFaultAt("key 1 " + no + " 1", 6);
        for (String no : near("times")) orderFaultAt("run " + no + " 2", 4);
    }

    // "of digits"
    private static void digits() {
        lawSound("wears 0");
        lawSound("wears 9");
        lawSound("wears 909");
        lawFaultAt("wears 1/2/", 10);
        lawFaultAt("wears 1:", 7);
        lawFaultAt("wears :", 6);
        lawFaultAt("wears /", 6);
        lawFaultAt("wears 9 9", 8);
        lawFaultAt("1", 0);
    }

    // "single other bytes"
    private static void singleBytes() {
        lawFaultAt("wears 1 if 1 <= 2", 14);
        lawFaultAt("wears 1 if 1 << 2", 14);
        lawFaultAt("wears 1 if 1 <> 2", 14);
        lawFaultAt("wears 1 -- 1", 9);
        lawFaultAt("wears 1 ** 2", 9);
        lawFaultAt("bars;;bars", 5);
        for (int other : new int[] {'A', 'Z', '_', '.', ',', '"', '!', '&', '|', '~', 127, 128, 200, 255}) {
            lawFaultAt("wears 1 " + (char) other + (char) other, 8);
            orderFaultAt("mend " + (char) other + (char) other, 5);
        }
    }

    // "CLAUSE {";" CLAUSE}, 12 at most (FAULT at the 13th's first TOKEN)"
    private static void twelveClauses() {
        lawSound(Edge.repeated("bars;", 11) + "bars");
        lawFaultAt(Edge.repeated("bars;", 12) + "bars", 60);
        lawFaultAt(Edge.repeated("bars;", 12) + "   wears 1", 63);
        lawFaultAt(Edge.repeated("bars;", 12) + "1001", 60);
        lawFaultAt(Edge.repeated("bars;", 12), 60);
        lawFaultAt(Edge.repeated("bars;", 12) + "   ", 63);
        lawFaultAt(Edge.repeated("bars;", 11) + "bars 1", 60);
        lawFaultAt(Edge.repeated("bars;", 20), 60);
        orderSound(Edge.repeated("mend 1;", 11) + "mend 1");
        orderFaultAt(Edge.repeated("mend 1;", 12) + "mend 1", 84);
        orderFaultAt(Edge.repeated("mend 1;", 12) + "  ?", 86);
        orderFaultAt(Edge.repeated("mend 1;", 12), 84);
        lawFaultAt(";", 0);
        lawFaultAt(";bars", 0);
        lawFaultAt("bars;", 5);
        orderFaultAt(";run", 0);
        orderFaultAt("run;", 4);
        orderFaultAt("run;;", 4);
    }

    // "NUMBER (to 1,000)"
    private static void thousand() {
        lawSound("wears 1000");
        lawSound("wears 0000000000000000000001000");
        lawSound("wears " + Edge.repeated("0", 300));
        lawFaultAt("wears 1001", 6);
        lawFaultAt("wears 0001001", 6);
        lawFaultAt("wears 9999", 6);
        lawFaultAt("wears 10000", 6);
        lawFaultAt("wears 4294967296", 6);
        lawFaultAt("wears 18446744073709551616", 6);
        lawFaultAt("wears 1" + Edge.repeated("0", 300), 6);
        lawFaultAt("wears 1 if 1 < 1001", 15);
        orderSound("mend 1000");
        orderFaultAt("mend 1001", 5);
        orderFaultAt("wind 1 if 1001 = 1", 10);
    }

    // "50 PARTS that are NUMBERS and words (FAULT at the 51st)"
    private static void fiftyParts() {
        lawSound("wears " + Edge.repeated("1+", 49) + "1");
        lawFaultAt("wears " + Edge.repeated("1+", 50) + "1", 106);
        lawFaultAt("wears " + Edge.repeated("1+", 50) + " turns", 107);
        lawFaultAt("wears " + Edge.repeated("1+", 50) + "[turns]", 107);
        lawFaultAt("wears " + Edge.repeated("1+", 50) + "?", 106);
        lawFaultAt("wears " + Edge.repeated("1+", 50), 106);
        lawSound("wears " + Edge.repeated("day+", 49) + "day");
        lawFaultAt("wears " + Edge.repeated("day+", 50) + "day", 206);
        lawSound("bars if " + Edge.repeated("1=1or ", 24) + "1=1");
        lawFaultAt("bars if " + Edge.repeated("1=1or ", 25) + "1=1", 158);
        lawFaultAt("bars if " + Edge.repeated("1=1or ", 24) + "1+1=1", 156);
        lawSound(Edge.repeated("bars if 1+1+1<2;", 11) + "bars if 1+1+1+1<2+1");
        lawFaultAt(Edge.repeated("bars if 1+1+1<2;", 11) + "bars if 1+1+1+1<2+1+1", 196);
        orderSound("mend " + Edge.repeated("1+", 49) + "1");
        orderFaultAt("mend " + Edge.repeated("1+", 50) + "1", 105);
        orderFaultAt("mend " + Edge.repeated("1+", 50) + "left 0", 105);
        orderSound("key 0*" + Edge.repeated("1*", 24) + "1 by " + Edge.repeated("1*", 23) + "1");
        orderFaultAt("key 0*" + Edge.repeated("1*", 24) + "1 by " + Edge.repeated("1*", 24) + "1", 107);
    }

    // "P, W, TIMES aside, NUMBERS and words count as PARTS."
    private static void partsThatDoNotCount() {
        orderSound("mend " + Edge.repeated("left 0+", 49) + "left 0 times 20");
        orderFaultAt("mend " + Edge.repeated("left 0+", 50) + "left 0", 355);
        orderSound("mend " + Edge.repeated("1+", 48) + "little 5+left 9 times 020");
        orderSound(Edge.repeated("mend 1 times 2;", 11) + "mend 1 times 2 if " + Edge.repeated("1+", 36) + "1>2");
        orderFaultAt(Edge.repeated("mend 1 times 2;", 11) + "mend 1 times 2 if " + Edge.repeated("1+", 37) + "1>2", 259);
    }

    // "8 brackets of both kinds within one another (FAULT at the 9th) at most"
    private static void eightBrackets() {
        for (int round = 0; round <= 8; round++) {
            String open = Edge.repeated("(", round) + Edge.repeated("[", 8 - round);
            String shut = Edge.repeated("]", 8 - round) + "=1" + Edge.repeated(")", round);
            lawSound("bars if " + open + "1" + shut);
            orderSound("mend 1 if " + open + "1" + shut);
            String more = Edge.repeated("(", round) + Edge.repeated("[", 9 - round);
            String end = Edge.repeated("]", 9 - round) + "=1" + Edge.repeated(")", round);
            lawFaultAt("bars if " + more + "1" + end, 16);
            orderFaultAt("mend 1 if " + more + "1" + end, 18);
        }
        lawFaultAt("bars if " + Edge.repeated("(", 9) + "1=1" + Edge.repeated(")", 9), 16);
        lawFaultAt("bars if " + Edge.repeated("(", 300), 16);
        lawFaultAt("wears " + Edge.repeated("[", 300), 14);
        String eight = Edge.repeated("[", 8) + "1" + Edge.repeated("]", 8);
        lawSound("wears " + eight + "+" + eight + ";wears " + eight + " if " + eight + "=" + eight);
        lawFaultAt("wears " + eight + "+" + "[" + eight + "]", 32);
        orderSound("key " + eight + "*0 by " + eight + " if (" + eight.substring(1, 16) + "=1)");
        orderFaultAt("mend " + eight + " if (" + eight + "=1)", 34);
    }

    // 'SUM ("<" | ">" | "=") SUM': both sides; '"(" TEST ")"' is no SUM, '"[" SUM "]"' no TEST
    private static void sides() {
        lawFaultAt("bars if", 7);
        lawFaultAt("bars if 1", 9);
        lawFaultAt("bars if 1 <", 11);
        lawFaultAt("bars if < 1", 8);
        lawFaultAt("bars if (1 < 2", 14);
        lawFaultAt("bars if (1) < 2", 10);
        lawFaultAt("bars if [1 < 2]", 11);
        lawFaultAt("bars if ()", 9);
        lawFaultAt("wears []", 7);
        lawFaultAt("wears (1)", 6);
        lawFaultAt("bars if 1 < (2)", 12);
        lawFaultAt("bars if 1 < 2 < 3", 14);
        lawFaultAt("bars if 1 < 2)", 13);
        lawFaultAt("wears 1]", 7);
        lawFaultAt("bars if not", 11);
        lawFaultAt("bars if 1 < 2 and", 17);
        lawFaultAt("bars if or 1 < 2", 8);
        lawFaultAt("wears 1 + not 2", 10);
        orderFaultAt("key 1 by", 8);
        orderFaultAt("key by 1", 4);
        orderFaultAt("key 1", 5);
    }

    // "FAULT: the first TOKEN that can't go on there", though it could go on further out
    private static void firstThatCanNotGoOn() {
        lawFaultAt("wears;bars", 5);
        lawFaultAt("wears if 1 = 1", 6);
        lawFaultAt("wears 1 +;bars", 9);
        lawFaultAt("wears 1 + if 1 = 1", 10);
        lawFaultAt("wears 1 *;bars", 9);
        lawFaultAt("wears 1 * if 1 = 1", 10);
        lawFaultAt("wears [;bars", 7);
        lawFaultAt("wears [1;bars", 8);
        lawFaultAt("wears [1 +] if 1 = 1", 10);
        lawFaultAt("wears [1 *]", 10);
        lawFaultAt("wears [[1] if 1 = 1", 11);
        lawFaultAt("bars if;bars", 7);
        lawFaultAt("bars if 1;bars", 9);
        lawFaultAt("bars if 1 <;bars", 11);
        lawFaultAt("bars if 1 < or 1 = 1", 12);
        lawFaultAt("bars if not;bars", 11);
        lawFaultAt("bars if not and 1 = 1", 12);
        lawFaultAt("bars if 1 = 1 or;bars", 16);
        lawFaultAt("bars if 1 = 1 or and 1 = 1", 17);
        lawFaultAt("bars if 1 = 1 and;bars", 17);
        lawFaultAt("bars if 1 = 1 and or 1 = 1", 18);
        lawFaultAt("bars if (;bars", 9);
        lawFaultAt("bars if (1 = 1;bars", 14);
        lawFaultAt("bars if (1 = 1 or)", 17);
        lawFaultAt("bars if (1 = 1 and)", 18);
        lawFaultAt("bars if (1 <)", 12);
        lawFaultAt("bars if (1)", 10);
        lawFaultAt("bars if (not)", 12);
        lawFaultAt("bars if ((1 = 1);bars", 16);
        orderFaultAt("wind;run", 4);
        orderFaultAt("wind if 1 = 1", 5);
        orderFaultAt("wind times 2", 5);
        orderFaultAt("key;run", 3);
        orderFaultAt("key 1;run", 5);
        orderFaultAt("key 1 times 2", 6);
        orderFaultAt("key 1 by;run", 8);
        orderFaultAt("key 1 by times 2", 9);
        orderFaultAt("run times;run", 9);
        orderFaultAt("run times if 1 = 1", 10);
        orderFaultAt("mend left;run", 9);
        orderFaultAt("mend left if 1 = 1", 10);
        orderFaultAt("mend 1 if little;run", 16);
        orderFaultAt("run if;run", 6);
    }

    // "the end's: the TEXT's length"
    private static void faultAtTheEnd() {
        lawFaultAt("wears", 5);
        lawFaultAt("wears    ", 9);
        lawFaultAt("wears 1 +   ", 12);
        lawFaultAt("wears 1" + Edge.repeated(" ", 392) + "+", 400);
        orderFaultAt("mend" + Edge.repeated(" ", 396), 400);
        lawFaultAt("wears 1" + Edge.repeated(" ", 392) + "?", 399);
    }

    // "FAULT of the latest law(), orders() that read a TEXT: its place; NONE without."
    private static void faultOfTheLatest() {
        WoundTown x = new WoundTown();
        Due.due("ahead of any", x.fault(), -1);
        Due.law(x, "wears ?");
        Due.due("of a law()", x.fault(), 6);
        Due.orders(x, "mend ?");
        Due.due("of orders()", x.fault(), 5);
        Due.orders(x, "run");
        Due.due("of orders() that can't be", x.fault(), -1);
        Due.law(x, "");
        Due.due("of an empty law()", x.fault(), 0);
        Due.law(x, "bars");
        Due.due("of a sound law()", x.fault(), -1);
        for (int law = 1; law < 6; law++) Due.law(x, "bars");
        Due.law(x, "wears ?");
        Due.due("without room it is not read", x.fault(), -1);
        Due.orders(x, "");
        Due.law(x, "bars");
        Due.due("without room it is not read", x.fault(), 0);
        x.row();
        Due.due("row() reads no text", x.fault(), 0);
    }

    // "TIMES: a NUMBER 1 .. 20."
    private static void times() {
        orderSound("mend 1 times 1");
        orderSound("mend 1 times 20");
        orderSound("mend 1 times 00020");
        orderFaultAt("mend 1 times 0", 13);
        orderFaultAt("mend 1 times 21", 13);
        orderFaultAt("mend 1 times 4294967297", 13);
        orderFaultAt("mend 1 times", 12);
        orderFaultAt("mend 1 times [1]", 13);
        orderFaultAt("mend 1 times day", 13);
        orderFaultAt("mend 1 times 2 times 2", 15);
        orderFaultAt("mend 1 if 1 = 1 times 2", 16);
        lawFaultAt("wears 1 times 2", 8);
    }

    // "P: a NUMBER 0 .. 5"
    private static void numbersOfPeople() {
        orderSound("mend 1 if little 0 = 0");
        orderSound("mend 1 if little 5 = 0");
        orderSound("mend 1 if little 05 = 0");
        orderFaultAt("mend 1 if little 6 = 0", 17);
        orderFaultAt("mend 1 if little = 0", 17);
        orderFaultAt("mend 1 if little [1] = 0", 17);
        orderFaultAt("mend little", 11);
    }

    // "W: 0 .. 9"
    private static void numbersOfWorks() {
        orderSound("mend 1 if left 0 = 0");
        orderSound("mend 1 if left 9 = 0");
        orderFaultAt("mend 1 if left 10 = 0", 15);
        orderFaultAt("mend 1 if left = 0", 15);
        orderFaultAt("mend 1 if left day = 0", 15);
        orderFaultAt("mend left", 9);
    }

    // "Words:" each language has its own; the kinds of CLAUSES, too
    private static void wordsOfTheOther() {
        for (String word : new String[] {"turns", "life", "day", "power", "hour", "person", "oil", "little", "mood"}) {
            lawSound("wears " + word);
        }
        for (String word : new String[] {"done", "ended", "left", "wind", "key", "by", "times", "if", "or", "and"}) {
            lawFaultAt("wears " + word, 6);
        }
        for (String word : new String[] {"day", "turns", "life", "done", "ended", "little 1", "left 1"}) {
            orderSound("mend 1 if " + word + " = 0");
        }
        for (String word : new String[] {"power", "hour", "person", "oil", "mood", "run", "times", "not"}) {
            orderFaultAt("mend " + word, 5);
        }
        for (String kind : new String[] {"wind 1", "key 1 by 1", "run", "mend 1", "if"}) lawFaultAt(kind, 0);
        for (String kind : new String[] {"runs 1", "speeds 1", "wears 1", "snaps 1", "bars", "if"}) orderFaultAt(kind, 0);
        lawFaultAt("bars 1", 5);
        orderFaultAt("run 1", 4);
        lawFaultAt("wears 1 by 2", 8);
        orderFaultAt("mend 1 by 2", 7);
    }
}
