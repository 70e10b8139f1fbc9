import java.util.Random;

/** Random runs of calls, each answered by the class and by the Model alike. The seeds are told: every run is the same. */
public final class ModelTest {
    private static final String[] LAW_WORDS = {"turns", "power", "hour", "person", "oil", "little", "life", "day", "mood"};
    private static final String[] ORDER_WORDS = {"day", "turns", "life", "done", "ended", "little ", "left "};

    private final Random random;
    private final WoundTown town = new WoundTown();
    private final Model model = new Model();
    private final StringBuilder told = new StringBuilder();
    private int parts;
    private boolean ofOrders;

    private ModelTest(long seed) {
        random = new Random(seed);
    }

    public static void main(String[] args) {
        int runs = args.length > 0 ? Integer.parseInt(args[0]) : 1500;
        long from = args.length > 1 ? Long.parseLong(args[1]) : 0;
        for (long seed = from; seed < from + runs; seed++) {
            ModelTest test = new ModelTest(seed);
            if (!test.isAlike()) {
                System.out.println("seed " + seed + ":\n" + test.told);
                System.exit(1);
            }
        }
        System.out.println(runs + " runs are answered alike");
    }

    private int upTo(int most) {
        return random.nextInt(most + 1);
    }

    /** Mostly within the bounds, now and then a little beyond. */
    private int about(int least, int most) {
        int kind = random.nextInt(40);
        if (kind == 0) return least - 1;
        if (kind == 1) return most + 1;
        if (kind == 2) return random.nextInt();
        return least + random.nextInt(most - least + 1);
    }

    private int aPerson() {
        return about(0, Math.max(0, model.s.people.size() - 1));
    }

    private int aWork() {
        return about(0, Math.max(0, model.s.works.size() - 1));
    }

    private boolean isAlike() {
        int calls = 60 + upTo(250);
        for (int i = 0; i < calls; i++) {
            if (!isCallAlike(i < 12 ? upTo(6) : upTo(99))) return false;
        }
        return true;
    }

    private boolean same(String call, long got, long want) {
        told.append(call).append(" -> ").append(got).append('\n');
        if (got != want) {
            told.append("due is ").append(want).append('\n');
            return false;
        }
        if (town.status() != model.status) {
            told.append("status ").append(town.status()).append(", due is ").append(model.status).append('\n');
            return false;
        }
        return isStateAlike();
    }

    private boolean isStateAlike() {
        for (int what = 0; what <= 18; what++) {
            if (town.count(what) != model.count(what)) {
                told.append("count ").append(what).append(": ").append(town.count(what)).append(", due is ")
                        .append(model.count(what)).append('\n');
                return false;
            }
        }
        for (int p = 0; p < 7; p++) {
            for (int what = 0; what < 5; what++) {
                if (town.of(p, what) != model.of(p, what)) {
                    told.append("of ").append(p).append(", ").append(what).append('\n');
                    return false;
                }
            }
        }
        for (int w = 0; w < 11; w++) {
            for (int what = 0; what < 7; what++) {
                if (town.at(w, what) != model.at(w, what)) {
                    told.append("at ").append(w).append(", ").append(what).append('\n');
                    return false;
                }
            }
        }
        return town.fault() == model.fault && town.stopped() == model.stopped && town.dust() == model.dust;
    }

    private boolean isCallAlike(int kind) {
        int a, b, c, d, e;
        switch (kind) {
            case 0: case 1:
                a = about(0, 9); b = about(0, 7);
                return same("person(" + a + ", " + b + ")", town.person(a, b), model.person(a, b));
            case 2: case 3: case 4: case 5: case 7:
                a = aPerson(); b = about(1, random.nextBoolean() ? 100 : 600); c = about(0, 23); d = about(1, 99);
                e = random.nextBoolean() ? -1 : aWork();
                return same("work(" + a + ", " + b + ", " + c + ", " + d + ", " + e + ")",
                        town.work(a, b, c, d, e), model.work(a, b, c, d, e));
            case 6: case 8: case 9: case 10: case 11: case 12:
                a = about(0, 7); b = about(0, 7); c = about(0, 99);
                return same("road(" + a + ", " + b + ", " + c + ")", town.road(a, b, c), model.road(a, b, c));
            case 13:
                a = aPerson(); b = about(0, 9);
                return same("oil(" + a + ", " + b + ")", town.oil(a, b), model.oil(a, b));
            case 14: case 15:
                a = about(0, 2); b = about(0, a == 0 ? random.nextInt(6) == 0 ? 999 : 50 : 9);
                return same("terms(" + a + ", " + b + ")", town.terms(a, b), model.terms(a, b));
            case 16: case 17:
                return isRowAlike();
            case 18: case 19: case 20: case 21: case 22: case 23:
                tape(aText(false));
                return same("law()", town.law(), model.law());
            case 24: case 25: case 26: case 27: case 28: case 29: case 30: case 31: case 32:
                tape(aText(true));
                return same("orders()", town.orders(), model.orders());
            case 33: case 34: case 35: case 36: case 37: case 38:
                a = about(-1, Math.max(0, model.s.laws.size() - 1));
                return same("force(" + a + ")", town.force(a), model.force(a));
            case 39: case 40:
                a = about(0, 12); b = about(0, 1);
                return same("asks(" + a + ", " + b + ")", town.asks(a, b), model.asks(a, b));
            case 41: case 42: case 43: case 44: case 45:
                a = about(0, 12);
                return same("wind(" + a + ")", town.wind(a), model.wind(a));
            case 46: case 47: case 48:
                a = aPerson(); b = about(1, random.nextInt(3) == 0 ? 9 : 3);
                return same("key(" + a + ", " + b + ")", town.key(a, b), model.key(a, b));
            case 49: case 50: case 51: case 52: case 53:
                return same("run()", town.run(), model.run());
            case 54: case 55:
                a = about(1, random.nextInt(3) == 0 ? 9999 : 300);
                return same("mend(" + a + ")", town.mend(a), model.mend(a));
            case 56: case 57: case 58: case 59:
                return same("undo()", town.undo(), model.undo());
            default:
                return isPaperAlike(kind);
        }
    }

    private boolean isPaperAlike(int kind) {
        int a, b, c;
        switch (kind) {
            case 60: case 61: case 62: case 63:
                a = about(0, 12); b = about(0, 23); c = about(0, model.s.people.size());
                return same("hour(" + a + ", " + b + ", " + c + ")", town.hour(a, b, c), model.hour(a, b, c));
            case 64: case 65: case 66:
                a = about(0, 12); b = aWork(); c = about(0, 1);
                return same("ends(" + a + ", " + b + ", " + c + ")", town.ends(a, b, c), model.ends(a, b, c));
            case 67: case 68: case 69:
                a = about(0, 12); b = about(0, 2);
                return same("day(" + a + ", " + b + ")", town.day(a, b), model.day(a, b));
            case 70: case 71: case 72:
                a = random.nextInt(3) == 0 ? about(0, (1 << model.s.works.size()) - 1) : 1 << upTo(9) | 1 << upTo(9);
                return same("least(" + a + ")", town.least(a), model.least(a));
            case 73: case 74:
                a = aPerson(); b = about(0, 12); c = about(-1, 5);
                return same("orderly(" + a + ", " + b + ", " + c + ")", town.orderly(a, b, c), model.orderly(a, b, c));
            case 75: case 76: case 77:
                a = aWork(); b = about(0, 12);
                return same("little(" + a + ", " + b + ")", town.little(a, b), model.little(a, b));
            case 78:
                a = about(0, 12);
                return same("lasts(" + a + ")", town.lasts(a), model.lasts(a));
            case 79: case 80:
                a = about(0, 12); b = about(0, 60);
                return same("odds(" + a + ", " + b + ")", town.odds(a, b), model.odds(a, b));
            case 81: case 82: case 83:
                return isSightAlike();
            case 84:
                return random.nextInt(4) > 0 || same("forget()", town.forget(), model.forget());
            case 85: case 86:
                return same("fits()", town.fits(), model.fits());
            case 87: case 88:
                a = about(0, 1);
                return same("guards(" + a + ")", town.guards(a), model.guards(a));
            case 89: case 90:
                a = about(0, 255) & (random.nextInt(20) == 0 ? -1 : ~(1 << upTo(7) | 1 << upTo(7) | 1 << upTo(7)));
                b = about(-1, 4);
                return same("round(" + a + ", " + b + ")", town.round(a, b), model.round(a, b));
            case 91:
                a = about(0, 12);
                return same("game(" + a + ")", town.game(a), model.game(a));
            case 92: case 93: case 94:
                a = about(0, 1000000); b = about(1, 60);
                return same("decade(" + a + ", " + b + ")", town.decade(a, b), model.decade(a, b));
            case 95: case 96:
                for (int what = -2; what < 15; what++) {
                    if (!same("drawn(" + what + ")", town.drawn(what), model.drawn(what))) return false;
                }
                return true;
            case 97: case 98:
                a = about(0, 1);
                return same("image(" + a + ")", town.image(a), model.image(a));
            default:
                a = about(0, 1);
                return same("back(" + a + ")", town.back(a), model.back(a));
        }
    }

    private boolean isSightAlike() {
        int work = aWork();
        int hour = about(0, 23);
        int minutes = about(0, 600);
        if (random.nextInt(4) > 0 && model.isWork(work) && Model.in(hour, 0, 23)) {
            minutes = new Model.Paper(model.s, upTo(12)).done[hour][work];
        }
        return same("sight(" + work + ", " + hour + ", " + minutes + ")", town.sight(work, hour, minutes),
                model.sight(work, hour, minutes));
    }

    private boolean isRowAlike() {
        byte[] bytes = new byte[upTo(random.nextBoolean() ? 12 : 40)];
        for (int i = 0; i < bytes.length; i++) {
            int[] most = {model.s.people.size(), 255, 24, 100};
            bytes[i] = (byte) (random.nextInt(15) == 0 ? upTo(255) : upTo(most[i % 4]));
        }
        tape(bytes);
        return same("row()", town.row(), model.row());
    }

    private void tape(String text) {
        byte[] bytes = new byte[text.length()];
        for (int i = 0; i < bytes.length; i++) bytes[i] = (byte) text.charAt(i);
        tape(bytes);
        told.append("text \"").append(text).append("\"\n");
    }

    /** Some of the feeding is left to chance: a tape that is not empty, is full, or is cut. */
    private void tape(byte[] bytes) {
        if (random.nextInt(8) > 0) {
            town.end(0);
            model.end(0);
        }
        int had = model.tape.length;
        for (int from = 0; from < bytes.length; from += 20) {
            int[] n = new int[5];
            for (int i = 0; i < 20; i++) {
                n[i / 4] = n[i / 4] << 8 | (from + i < bytes.length ? bytes[from + i] & 255 : ' ');
            }
            if (town.feed(n[0], n[1], n[2], n[3], n[4]) != model.feed(n)) throw new IllegalStateException("feed");
        }
        int end = random.nextInt(12) == 0 ? about(0, had + bytes.length) : had + bytes.length;
        if (town.end(end) != model.end(end)) throw new IllegalStateException("end");
    }

    // ---------------------------------------------------------------- texts

    private String aText(boolean orders) {
        ofOrders = orders;
        parts = 0;
        StringBuilder text = new StringBuilder();
        int clauses = random.nextInt(20) == 0 ? 11 + upTo(2) : 1 + upTo(5);
        for (int c = 0; c < clauses; c++) {
            if (c > 0) text.append(';');
            text.append(orders ? anOrder() : aLaw());
        }
        String whole = text.toString();
        return random.nextInt(4) == 0 ? spoilt(whole) : whole;
    }

    private String spoilt(String text) {
        StringBuilder t = new StringBuilder(text);
        int many = 1 + upTo(1);
        String[] pieces = {"(", ")", "[", "]", "not ", ";", " if ", " or ", " and ", "1001", "1000", " oil ", " left 3", "<",
            "=", "+", " ", "%", "A", "\u00e9", " by ", " times 3 ", "little", "little 6", "0", "x"};
        for (int i = 0; i < many && t.length() > 0; i++) {
            int at = upTo(t.length() - 1);
            switch (upTo(3)) {
                case 0: t.deleteCharAt(at); break;
                case 1: t.insert(at, pieces[upTo(pieces.length - 1)]); break;
                case 2: t.setLength(at); break;
                default: t.setCharAt(at, (char) upTo(255)); break;
            }
        }
        return t.toString();
    }

    private String aLaw() {
        String[] kinds = {"runs", "speeds", "wears", "snaps", "bars"};
        String kind = kinds[upTo(4)];
        String text = kind;
        if (!kind.equals("bars")) text += " " + sum(2);
        return random.nextInt(3) > 0 ? text + " if " + test(2) : text;
    }

    private String anOrder() {
        String text;
        switch (upTo(7)) {
            case 0: text = "wind " + upTo(12); break;
            case 1: text = "wind " + sum(1); break;
            case 2: text = "key " + upTo(Math.max(0, model.s.people.size() - 1)) + " by " + upTo(3); break;
            case 3: text = "key " + sum(1) + " by " + sum(1); break;
            case 4: text = "mend " + sum(1); break;
            case 5: text = "mend " + upTo(50); break;
            default: text = "run"; break;
        }
        if (random.nextInt(6) == 0) text += " times " + about(1, random.nextBoolean() ? 20 : 3);
        int kind = upTo(4);
        if (kind == 0) text += text.startsWith("run") ? " if turns > 0 - 1" : " if turns = 0 - 1";
        if (kind == 1) text += " if " + test(2);
        return text;
    }

    private String blank() {
        return random.nextInt(3) == 0 ? "" : random.nextInt(9) == 0 ? "  " : " ";
    }

    private String test(int depth) {
        StringBuilder text = new StringBuilder(plain(depth));
        while (random.nextInt(3) == 0) text.append(random.nextBoolean() ? " or " : " and ").append(plain(depth));
        return text.toString();
    }

    private String plain(int depth) {
        if (random.nextInt(6) == 0) return "not " + plain(depth);
        if (depth > 0 && random.nextInt(4) == 0) {
            return "(" + blank() + test(depth - (random.nextInt(6) == 0 ? 0 : 1)) + blank() + ")";
        }
        return sum(depth - 1) + blank() + "<>=".charAt(upTo(2)) + blank() + sum(depth - 1);
    }

    private String sum(int depth) {
        StringBuilder text = new StringBuilder(term(depth));
        while (random.nextInt(3) == 0) text.append(blank()).append("+-".charAt(upTo(1))).append(blank()).append(term(depth));
        return text.toString();
    }

    private String term(int depth) {
        StringBuilder text = new StringBuilder(part(depth));
        while (random.nextInt(4) == 0) text.append(blank()).append("*/%".charAt(upTo(2))).append(blank()).append(part(depth));
        return text.toString();
    }

    private String part(int depth) {
        if (depth > 0 && random.nextInt(5) == 0) {
            return "[" + blank() + sum(depth - (random.nextInt(6) == 0 ? 0 : 1)) + blank() + "]";
        }
        parts++;
        if (random.nextBoolean()) return random.nextInt(5) == 0 ? "" + upTo(1000) : "" + upTo(12);
        if (!ofOrders) return " " + LAW_WORDS[upTo(8)] + " ";
        int word = upTo(6);
        return " " + ORDER_WORDS[word] + (word == 5 ? about(0, 5) & 7 : word == 6 ? upTo(9) : "") + " ";
    }
}
