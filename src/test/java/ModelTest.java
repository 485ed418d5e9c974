import java.util.ArrayList;
import java.util.Arrays;
import java.util.List;

/**
 * Long runs of calls, by lot but always the same ones, whose answers are compared with those of a second
 * program that is written in another way: texts are read anew at each question, each cake is baked for itself.
 */
public final class ModelTest {
    private static final int OBJECTS = 100, CALLS = 512;
    private static int wrong = 0;

    public static void main(String[] args) {
        int[] asked = new int[NAMES.length];
        for (int i = 0; i < OBJECTS && wrong < 20; i++) {
            run(i, asked);
        }
        for (int k = 0; k < NAMES.length; k++) {
            if (asked[k] < 10) {
                wrong++;
                System.out.println(NAMES[k] + " was hardly asked: " + asked[k]);
            }
        }
        System.out.println(wrong == 0 ? "the model answers alike" : wrong + " answers are unlike the model's");
        if (wrong != 0) {
            System.exit(1);
        }
    }

    private static final String[] NAMES = {
        "count", "set", "hot", "spot", "feed", "text", "force", "asks", "cake", "move", "told", "open", "opening",
        "shut", "at", "end", "off", "when", "twice", "until", "out", "singly", "soon", "few", "fan", "cost", "lay",
        "swap", "which", "judge", "how", "kinds", "heats", "turned", "laws", "film", "drawn", "odds", "image", "back",
        "sheet", "cell", "copy", "cakesBy", "taken"
    };

    // ---- lots of the test's own

    private static long lot;

    private static int lot(int below) {
        lot = (lot * 6364136223846793005L + 1442695040888963407L);
        return (int) ((lot >>> 33) % below);
    }

    /** Mostly low .. high, at times just outside, seldom far outside. */
    private static int about(int low, int high) {
        int r = lot(40);
        if (r == 0) return low - 1;
        if (r == 1) return high + 1;
        if (r == 2) {
            int[] far = {Integer.MIN_VALUE, Integer.MAX_VALUE, -1, 0, 1 << 30, -5000, 70000};
            return far[lot(far.length)];
        }
        if (r == 3) return low;
        if (r == 4) return high;
        return low + lot(high - low + 1);
    }

    private static String one(int depth) {
        String[] names = {"heat", "minute", "brown", "more", "since", "openings"};
        int r = lot(depth > 4 ? 7 : 10);
        if (r < 3) return "" + lot(r == 0 ? 12000 : 60);
        if (r < 7) return names[lot(names.length)];
        if (r < 8) return "-" + one(depth + 1);
        return "(" + e(depth + 1) + ")";
    }

    private static String chain(String part, String[] signs, int more, int depth, int level) {
        StringBuilder text = new StringBuilder(part);
        while (lot(10) < more) {
            text.append(blank()).append(signs[lot(signs.length)]).append(blank()).append(level(depth, level));
        }
        return text.toString();
    }

    private static String blank() {
        return lot(3) == 0 ? "\n" : " ";
    }

    private static String level(int depth, int level) {
        if (level == 0) return one(depth);
        if (level == 1) return chain(level(depth, 0), new String[] {"*"}, 2, depth, 0);
        if (level == 2) return chain(level(depth, 1), new String[] {"+", "-"}, 2, depth, 1);
        String sums = level(depth, 2);
        if (lot(4) == 0) sums = sums + (lot(2) == 0 ? "<" : "=") + level(depth, 2);
        return lot(6) == 0 && depth < 6 ? "not " + level(depth + 1, 3) : sums;
    }

    private static String e(int depth) {
        String text = level(depth, 3);
        while (lot(8) == 0) {
            text = text + blank() + (lot(2) == 0 ? "or" : "and") + blank() + level(depth, 3);
        }
        return text;
    }

    private static String textByLot() {
        String text;
        int r = lot(6);
        if (r < 2) {
            text = "browns heat*" + lot(4) + "+" + lot(9) + ";cools(since<" + lot(6) + ")*" + lot(20)
                + ";minds 1+(" + lot(5) + "<openings+more);";
        } else {
            text = "browns " + e(0) + " ; cools " + e(0) + ";minds " + e(0) + " ; ";
        }
        if (lot(4) == 0) {
            int at = lot(text.length());
            String[] instead = {"", " ", "(", ")", "x", "not ", "-", ";", "12345", "0", "A", "=", "<", "or", "browns"};
            text = text.substring(0, at) + instead[lot(instead.length)] + text.substring(at + lot(2));
        }
        if (lot(12) == 0) text = text.substring(0, lot(text.length()));
        return text;
    }

    // ---- one object's calls

    private static void run(int object, int[] asked) {
        lot = object * 7919L + 17;
        HotCorner x = new HotCorner();
        Model m = new Model();
        List<Object[]> calls = new ArrayList<>();
        int style = lot(4);
        for (int done = 0; done < CALLS && wrong < 20; ) {
            calls.clear();
            plan(m, calls, style);
            for (Object[] call : calls) {
                if (done++ >= CALLS) break;
                int k = (Integer) call[0];
                int[] a = (int[]) call[1];
                asked[k]++;
                long want = m.ask(k, a);
                long got;
                try {
                    got = ask(x, k, a);
                } catch (RuntimeException thrown) {
                    wrong++;
                    System.out.println("object " + object + ", " + NAMES[k] + Arrays.toString(a) + " threw " + thrown);
                    continue;
                }
                if (got != want) {
                    wrong++;
                    System.out.println("object " + object + ", call " + done + ": " + NAMES[k] + Arrays.toString(a)
                        + " answered " + got + ", the model " + want);
                }
            }
        }
    }

    private static void add(List<Object[]> calls, String name, int... a) {
        calls.add(new Object[] {Arrays.asList(NAMES).indexOf(name), a});
    }

    private static void plan(Model m, List<Object[]> calls, int style) {
        int r = lot(100);
        int c = m.cakes.isEmpty() ? 0 : lot(m.cakes.size());
        if (lot(25) == 0) c = about(0, 7);
        if (r < 14) {
            add(calls, "cake", about(0, 59), about(0, style == 0 ? 300 : 999), about(0, 15));
        } else if (r < 20) {
            add(calls, "set", lot(8) == 0 ? about(0, 2) : 0, about(0, 15), about(0, style == 1 ? 99 : 30));
            if (lot(3) == 0) add(calls, "set", 1, lot(3), about(1, style == 2 ? 40 : 12));
            if (lot(3) == 0) add(calls, "set", 2, lot(3), about(0, 3));
        } else if (r < 27) {
            int last = m.plan.isEmpty() ? 0 : m.plan.get(m.plan.size() - 1)[0];
            add(calls, "open", lot(4) == 0 ? about(0, 39) : last + 1 + lot(5), about(0, 3));
            if (lot(30) == 0) add(calls, "shut");
        } else if (r < 33) {
            feedText(calls, textByLot());
            if (lot(10) > 0) add(calls, "text");
            add(calls, "force", about(0, 5));
        } else if (r < 38) {
            add(calls, "move", c, about(0, 15));
            add(calls, "told", c, about(0, 4));
            add(calls, "opening", about(0, 5), about(0, 1));
        } else if (r < 43) {
            add(calls, "asks", about(0, 2), about(0, 9999) / 100 * 100 + about(0, 39), about(0, 999),
                100 * c + about(0, 99));
            add(calls, "count", about(0, 6));
            add(calls, "hot", about(0, 15));
            add(calls, "spot", about(0, 15), about(0, 3));
            add(calls, "taken", about(0, 31), about(0, 6));
        } else if (r < 56) {
            add(calls, "at", c, about(0, m.time));
            add(calls, "end", about(0, 4));
            add(calls, "off", c, about(0, 1));
            add(calls, "out", c, about(0, 1));
            add(calls, "soon", c, about(0, 999));
            add(calls, "lay", c, about(0, 1));
            add(calls, "few", lot(3) == 0 ? about(0, 999) : about(0, 60));
        } else if (r < 62) {
            String[] names = {"until", "which", "swap", "when", "twice"};
            String name = names[lot(lot(4) == 0 ? 5 : 4)];
            if (name.equals("when")) add(calls, name, about(0, 1), about(0, 1));
            else add(calls, name, about(0, 1));
        } else if (r < 66) {
            add(calls, "singly");
            add(calls, "fan");
            add(calls, "cost");
        } else if (r < 74) {
            int s = lot(4);
            if (lot(4) > 0) add(calls, "film", s, lot(3) == 0 ? about(0, m.time) : m.time);
            judgeAll(m, calls, s, c);
        } else if (r < 80) {
            add(calls, "drawn", lot(4) == 0 ? about(0, 99999) : lot(40), about(0, 1));
            add(calls, "odds", about(0, 99999), about(1, 20), lot(2) == 0 ? about(0, 999) : about(0, 150), about(0, 1));
        } else if (r < 84) {
            add(calls, lot(2) == 0 ? "image" : "back");
        } else {
            sheetCalls(calls);
        }
    }

    private static void feedText(List<Object[]> calls, String text) {
        for (int i = 0; i < text.length(); i += 5) {
            int[] a = new int[6];
            a[0] = Math.min(5, text.length() - i);
            for (int k = 0; k < a[0]; k++) a[k + 1] = text.charAt(i + k);
            if (lot(200) == 0) a[1 + lot(5)] = about(0, 255);
            add(calls, "feed", a);
        }
    }

    private static void judgeAll(Model m, List<Object[]> calls, int s, int c) {
        int sheet = lot(15) == 0 ? about(0, 3) : s;
        if (lot(3) == 0) add(calls, "set", 2, 0, lot(4));
        if (lot(6) == 0) add(calls, "set", 0, lot(16), lot(40));
        if (lot(4) == 0 && m.cakes.size() > 1) add(calls, "cell", s, lot(m.cakes.size()), about(0, 999));
        add(calls, "judge", sheet);
        add(calls, "how", sheet);
        add(calls, "kinds", sheet, c, about(0, 1));
        add(calls, "heats", sheet, about(0, 15), about(0, 2));
        add(calls, "turned", sheet);
        add(calls, "laws", sheet);
    }

    private static void sheetCalls(List<Object[]> calls) {
        int s = about(0, 3);
        int sort = lot(3);
        if (lot(3) == 0) add(calls, "sheet", s, about(-1, 2), about(0, 40));
        else add(calls, "sheet", s, sort, 12 + lot(12));
        for (int i = 0; i < 6; i++) add(calls, "cell", s, lot(8) == 0 ? about(0, 40) : i, i % 3 == 0 ? about(0, 59)
            : i % 3 == 1 ? about(0, 999) : about(0, 15));
        add(calls, "copy", s, about(0, 12), lot(3) == 0 ? about(0, 3) : s, about(0, 12), lot(3) == 0 ? about(0, 40) : lot(8));
        add(calls, "cakesBy", s, lot(10) == 0 ? about(0, 2) : sort, lot(3) == 0 ? about(0, 20) : 3 * lot(3), about(0, 8));
    }

    private static long ask(HotCorner x, int k, int[] a) {
        switch (NAMES[k]) {
            case "count": return x.count(a[0]);
            case "set": return x.set(a[0], a[1], a[2]);
            case "hot": return x.hot(a[0]);
            case "spot": return x.spot(a[0], a[1]);
            case "feed": return x.feed(a[0], a[1], a[2], a[3], a[4], a[5]);
            case "text": return x.text();
            case "force": return x.force(a[0]);
            case "asks": return x.asks(a[0], a[1], a[2], a[3]);
            case "cake": return x.cake(a[0], a[1], a[2]);
            case "move": return x.move(a[0], a[1]);
            case "told": return x.told(a[0], a[1]);
            case "open": return x.open(a[0], a[1]);
            case "opening": return x.opening(a[0], a[1]);
            case "shut": return x.shut();
            case "at": return x.at(a[0], a[1]);
            case "end": return x.end(a[0]);
            case "off": return x.off(a[0], a[1]);
            case "when": return x.when(a[0], a[1]);
            case "twice": return x.twice(a[0]);
            case "until": return x.until(a[0]);
            case "out": return x.out(a[0], a[1]);
            case "singly": return x.singly();
            case "soon": return x.soon(a[0], a[1]);
            case "few": return x.few(a[0]);
            case "fan": return x.fan();
            case "cost": return x.cost();
            case "lay": return x.lay(a[0], a[1]);
            case "swap": return x.swap(a[0]);
            case "which": return x.which(a[0]);
            case "judge": return x.judge(a[0]);
            case "how": return x.how(a[0]);
            case "kinds": return x.kinds(a[0], a[1], a[2]);
            case "heats": return x.heats(a[0], a[1], a[2]);
            case "turned": return x.turned(a[0]);
            case "laws": return x.laws(a[0]);
            case "film": return x.film(a[0], a[1]);
            case "drawn": return x.drawn(a[0], a[1]);
            case "odds": return x.odds(a[0], a[1], a[2], a[3]);
            case "image": return x.image();
            case "back": return x.back();
            case "sheet": return x.sheet(a[0], a[1], a[2]);
            case "cell": return x.cell(a[0], a[1], a[2]);
            case "copy": return x.copy(a[0], a[1], a[2], a[3], a[4]);
            case "cakesBy": return x.cakesBy(a[0], a[1], a[2], a[3]);
            default: return x.taken(a[0], a[1]);
        }
    }

    // ---- the model

    private static final class Model {
        int[] hot = new int[16];
        int time = 20, lies = 0, law = 0;
        List<int[]> plan = new ArrayList<>();          // minute, quarters
        List<int[]> cakes = new ArrayList<>();         // kind, more, wish, place
        List<String> texts = new ArrayList<>();
        String tape = "";
        Object[] image = null;
        Object[] sheets = new Object[4];

        Model() {
            Arrays.fill(hot, 10);
            texts.add("browns heat * 2 ; cools ( since < 3 ) * 5 ; minds 1 ; ");
        }

        boolean no(int v, int low, int high) {
            return v < low || v > high;
        }

        // ---- texts: read from their letters at each question

        private String read;
        private int pos, opened;
        private int[] env;

        private static final class Fault extends RuntimeException {
            private static final long serialVersionUID = 1L;
            final int place;

            Fault(int place) {
                super("fault", null, false, false);
                this.place = place;
            }
        }

        /** Where the next token begins; pos is set there. */
        private int skip() {
            while (pos < read.length() && (read.charAt(pos) == 32 || read.charAt(pos) == 10)) pos++;
            return pos;
        }

        private String peek() {
            skip();
            if (pos == read.length()) return "";
            char first = read.charAt(pos);
            int to = pos + 1;
            if (first >= 'a' && first <= 'z') {
                while (to < read.length() && read.charAt(to) >= 'a' && read.charAt(to) <= 'z') to++;
            } else if (first >= '0' && first <= '9') {
                while (to < read.length() && read.charAt(to) >= '0' && read.charAt(to) <= '9') to++;
            }
            return read.substring(pos, to);
        }

        private boolean eat(String token) {
            if (!peek().equals(token)) return false;
            pos += token.length();
            return true;
        }

        private void need(String token) {
            if (!eat(token)) throw new Fault(skip());
        }

        private int[] parts(String text, int[] values) {
            read = text;
            pos = 0;
            opened = 0;
            env = values;
            int[] said = new int[3];
            String[] keys = {"browns", "cools", "minds"};
            for (int k = 0; k < 3; k++) {
                need(keys[k]);
                said[k] = Math.min(99, Math.max(0, or()));
                need(";");
            }
            if (skip() < text.length()) throw new Fault(pos);
            return said;
        }

        private int or() {
            int v = and();
            while (eat("or")) {
                int w = and();
                v = v != 0 || w != 0 ? 1 : 0;
            }
            return v;
        }

        private int and() {
            int v = not();
            while (eat("and")) {
                int w = not();
                v = v != 0 && w != 0 ? 1 : 0;
            }
            return v;
        }

        private void enter(String token) {
            if (opened == 5) throw new Fault(skip());
            opened++;
            need(token);
        }

        private int not() {
            if (peek().equals("not")) {
                enter("not");
                int v = not() == 0 ? 1 : 0;
                opened--;
                return v;
            }
            int v = sum();
            if (eat("<")) return v < sum() ? 1 : 0;
            if (eat("=")) return v == sum() ? 1 : 0;
            return v;
        }

        private int sum() {
            int v = term();
            while (true) {
                if (eat("+")) v += term();
                else if (eat("-")) v -= term();
                else return v;
            }
        }

        private int term() {
            int v = one();
            while (eat("*")) v *= one();
            return v;
        }

        private int one() {
            String token = peek();
            if (token.equals("-")) {
                enter("-");
                int v = -one();
                opened--;
                return v;
            }
            if (token.equals("(")) {
                enter("(");
                int v = or();
                need(")");
                opened--;
                return v;
            }
            int name = Arrays.asList("heat", "minute", "brown", "more", "since", "openings").indexOf(token);
            if (name >= 0) {
                need(token);
                return env[name];
            }
            if (token.isEmpty() || no(token.charAt(0), '0', '9') || token.length() > 4) throw new Fault(skip());
            need(token);
            return Integer.parseInt(token);
        }

        private int say(int part, int... values) {
            return parts(texts.get(law), values)[part];
        }

        // ---- baking one cake

        private int[] begin = {0, 0, 0, 0, 0, 0};

        int begins(int[] cake) {
            int kind = cake[0];
            return kind == 1 ? cake[1] / 3 : kind == 3 ? cake[1] / 3 * 2 + 2 : 0;
        }

        int gain(int[] cake, int said, int brown) {
            switch (cake[0]) {
                case 1: case 3: return said * 2 / 3;
                case 2: return said + cake[1] / 2;
                case 4: return (said + cake[1] / 2) * (brown > 10 * cake[1] + 20 ? 3 : 1);
                default: return said;
            }
        }

        int away(int[] cake, int brown) {
            if (cake[0] == 5 && brown >= cake[2]) return 0;
            int far = Math.abs(brown - cake[2]);
            return cake[0] == 4 && brown > cake[2] ? 2 * far : far;
        }

        int spotOf(int place, int quarters) {
            int[] quarter = {3, 7, 11, 15, 2, 6, 10, 14, 1, 5, 9, 13, 0, 4, 8, 12};
            int spot = place;
            for (int q = 0; q < quarters; q++) spot = quarter[spot];
            return spot;
        }

        int brown(int[] cake, int minutes) {
            int brown = 0;
            for (int minute = 0; minute < minutes; minute++) {
                int quarters = lies;
                int last = -1;
                for (int[] opening : plan) {
                    if (opening[0] <= minute) {
                        quarters += opening[1];
                        last = opening[0];
                    }
                }
                int heat = hot[spotOf(cake[3], quarters % 4)];
                int since = last < 0 ? minute : minute - last;
                if (last >= 0) heat = Math.max(0, heat - say(1, heat, minute, brown, cake[1], since, plan.size()));
                if (minute < begins(cake)) continue;
                brown = Math.min(999, brown + gain(cake, say(0, heat, minute, brown, cake[1], since, plan.size()), brown));
            }
            return brown;
        }

        int bad(int[] cake, int minutes) {
            int brown = brown(cake, minutes);
            return away(cake, brown) * say(2, 0, 0, brown, cake[1], 0, plan.size());
        }

        int badAll(int minutes) {
            int all = 0;
            for (int[] cake : cakes) all += bad(cake, minutes);
            return all;
        }

        int[] browns(int minutes) {
            int[] all = new int[cakes.size()];
            for (int c = 0; c < all.length; c++) all[c] = brown(cakes.get(c), minutes);
            return all;
        }

        int apart() {
            int[] all = browns(time);
            Arrays.sort(all);
            return all.length == 0 ? 0 : all[all.length - 1] - all[0];
        }

        // ---- questions

        private long best, bestAt;
        private boolean any;

        private void none() {
            any = false;
            best = -1;
            bestAt = -1;
        }

        private void offer(long at, long v) {
            if (!any || v < best) {
                best = v;
                bestAt = at;
                any = true;
            }
        }

        private long pick(int what) {
            return what == 0 ? bestAt : best;
        }

        private int sheetWrong(int s) {
            if (no(s, 0, 3)) return -2;
            if (sheets[s] == null) return -11;
            return sizeOf(sheets[s]) == cakes.size() ? 0 : -2;
        }

        private static int sizeOf(Object sheet) {
            return java.lang.reflect.Array.getLength(sheet);
        }

        private static int cellOf(Object sheet, int i) {
            return java.lang.reflect.Array.getInt(sheet, i);
        }

        private int firstWrong(int s) {
            int[] all = browns(time);
            for (int c = 0; c < all.length; c++) if (cellOf(sheets[s], c) != all[c]) return c;
            return -1;
        }

        private int on(int place) {
            for (int c = 0; c < cakes.size(); c++) if (cakes.get(c)[3] == place) return c;
            return -1;
        }

        private void drawHot(long seed) {
            long v = (seed + 1) * 48271 % 2147483647;
            for (int i = 0; i < 16; i++) {
                hot[i] = (int) (v % 30);
                v = v * 48271 % 2147483647;
            }
        }

        long cake(int kindMore, int wish, int place) {
            if (no(kindMore, 0, 59) || no(wish, 0, 999) || no(place, 0, 15)) return -2;
            if (on(place) >= 0) return -3;
            if (cakes.size() == 8) return -4;
            cakes.add(new int[] {kindMore / 10, kindMore % 10, wish, place});
            return cakes.size() - 1;
        }

        long ask(int k, int[] a) {
            int[] hotWas = hot.clone();
            int timeWas = time, liesWas = lies, lawWas = law;
            List<int[]> planWas = new ArrayList<>(plan);
            String name = NAMES[k];
            switch (name) {
                case "set": case "feed": case "text": case "force": case "cake": case "move": case "open": case "shut":
                case "film": case "image": case "back": case "sheet": case "cell": case "copy": case "cakesBy":
                    return change(name, a);
                default:
            }
            long answer = look(name, a);
            if (answer == 77777777) answer = think(name, a);
            hot = hotWas;
            time = timeWas;
            lies = liesWas;
            law = lawWas;
            plan = planWas;
            return answer;
        }

        private long change(String name, int[] a) {
            switch (name) {
                case "set": return set(a[0], a[1], a[2]);
                case "feed": {
                    if (no(a[0], 1, 5)) return -2;
                    for (int i = 1; i < 6; i++) if (no(a[i], 0, 255)) return -2;
                    if (tape.length() + a[0] > 160) return -4;
                    for (int i = 1; i <= a[0]; i++) tape += (char) a[i];
                    return tape.length();
                }
                case "text": {
                    if (texts.size() == 6) return -4;
                    String text = tape;
                    tape = "";
                    try {
                        parts(text, begin);
                    } catch (Fault fault) {
                        return -100 - fault.place;
                    }
                    texts.add(text);
                    return texts.size() - 1;
                }
                case "force": {
                    if (no(a[0], 0, texts.size() - 1)) return -2;
                    int was = law;
                    law = a[0];
                    return was;
                }
                case "cake": return cake(a[0], a[1], a[2]);
                case "move": {
                    if (no(a[0], 0, cakes.size() - 1)) return -5;
                    if (no(a[1], 0, 15)) return -7;
                    if (on(a[1]) >= 0 && on(a[1]) != a[0]) return -3;
                    int was = cakes.get(a[0])[3];
                    cakes.get(a[0])[3] = a[1];
                    return was;
                }
                case "open": {
                    if (no(a[0], 0, 39) || no(a[1], 0, 3)) return -2;
                    if (!plan.isEmpty() && plan.get(plan.size() - 1)[0] >= a[0]) return -3;
                    if (plan.size() == 6) return -4;
                    plan.add(new int[] {a[0], a[1]});
                    return plan.size();
                }
                case "shut": {
                    int was = plan.size();
                    plan.clear();
                    return was;
                }
                case "image": {
                    int[] places = new int[cakes.size()];
                    for (int c = 0; c < places.length; c++) places[c] = cakes.get(c)[3];
                    image = new Object[] {hot.clone(), places, new ArrayList<>(plan), time, lies, law};
                    return places.length;
                }
                case "back": {
                    if (image == null) return -3;
                    hot = ((int[]) image[0]).clone();
                    int[] places = (int[]) image[1];
                    while (cakes.size() > places.length) cakes.remove(cakes.size() - 1);
                    for (int c = 0; c < places.length; c++) cakes.get(c)[3] = places[c];
                    plan.clear();
                    for (Object opening : (List<?>) image[2]) plan.add((int[]) opening);
                    time = (Integer) image[3];
                    lies = (Integer) image[4];
                    law = (Integer) image[5];
                    return places.length;
                }
                default: return host(name, a);
            }
        }

        private long set(int what, int of, int v) {
            if (no(what, 0, 2)) return -5;
            if (what == 0 && no(of, 0, 15)) return -6;
            if (what == 0 ? no(v, 0, 99) : what == 1 ? no(v, 1, 40) : no(v, 0, 3)) return -7;
            int was = what == 0 ? hot[of] : what == 1 ? time : lies;
            if (what == 0) hot[of] = v;
            if (what == 1) time = v;
            if (what == 2) lies = v;
            return was;
        }

        private long host(String name, int[] a) {
            int s = a[0];
            switch (name) {
                case "film": {
                    if (no(s, 0, 3) || no(a[1], 0, time)) return -2;
                    int[] all = browns(a[1]);
                    short[] row = new short[all.length];
                    for (int c = 0; c < row.length; c++) row[c] = (short) all[c];
                    sheets[s] = row;
                    return row.length;
                }
                case "sheet": {
                    if (no(s, 0, 3) || no(a[1], -1, 2) || a[1] >= 0 && a[2] > 40) return -2;
                    if (a[1] >= 0 && a[2] < 0) return -14;
                    sheets[s] = a[1] < 0 ? null : a[1] == 0 ? new byte[a[2]] : a[1] == 1 ? new short[a[2]] : new int[a[2]];
                    return 1;
                }
                case "cell": {
                    if (no(s, 0, 3)) return -2;
                    if (sheets[s] == null) return -11;
                    if (no(a[1], 0, sizeOf(sheets[s]) - 1)) return -12;
                    if (sheets[s] instanceof byte[]) ((byte[]) sheets[s])[a[1]] = (byte) a[2];
                    else if (sheets[s] instanceof short[]) ((short[]) sheets[s])[a[1]] = (short) a[2];
                    else ((int[]) sheets[s])[a[1]] = a[2];
                    return 1;
                }
                case "copy": {
                    if (no(s, 0, 3) || no(a[2], 0, 3)) return -2;
                    if (sheets[s] == null || sheets[a[2]] == null) return -11;
                    try {
                        System.arraycopy(sheets[s], a[1], sheets[a[2]], a[3], a[4]);
                    } catch (ArrayStoreException unlike) {
                        return -13;
                    } catch (IndexOutOfBoundsException outside) {
                        return -12;
                    }
                    return a[4];
                }
                default: {
                    if (no(s, 0, 3) || no(a[1], 0, 2) || no(a[3], 0, 8)) return -2;
                    if (sheets[s] == null) return -11;
                    Class<?>[] sorts = {byte[].class, short[].class, int[].class};
                    if (sheets[s].getClass() != sorts[a[1]]) return -13;
                    int came = 0;
                    for (int k = 0; k < a[3]; k++) {
                        int[] three = new int[3];
                        for (int i = 0; i < 3; i++) {
                            if (no(a[2] + 3 * k + i, 0, sizeOf(sheets[s]) - 1)) return -12;
                            three[i] = cellOf(sheets[s], a[2] + 3 * k + i);
                        }
                        if (cake(three[0], three[1], three[2]) >= 0) came++;
                    }
                    return came;
                }
            }
        }

        private long look(String name, int[] a) {
            switch (name) {
                case "count": {
                    int[] all = {cakes.size(), time, lies, plan.size(), texts.size(), law, tape.length()};
                    return no(a[0], 0, 6) ? -2 : all[a[0]];
                }
                case "hot": return no(a[0], 0, 15) ? -2 : hot[a[0]];
                case "spot": return no(a[0], 0, 15) || no(a[1], 0, 3) ? -2 : spotOf(a[0], a[1]);
                case "asks": {
                    if (no(a[0], 0, 2) || no(a[1], 0, 9999) || a[1] % 100 > 39 || no(a[2], 0, 999)) return -2;
                    if (a[3] < 0 || a[3] / 100 >= cakes.size()) return -2;
                    return say(a[0], a[1] / 100, a[1] % 100, a[2], cakes.get(a[3] / 100)[1], a[3] % 100, plan.size());
                }
                case "told": {
                    if (no(a[0], 0, cakes.size() - 1)) return -5;
                    if (no(a[1], 0, 4)) return -7;
                    return a[1] == 4 ? begins(cakes.get(a[0])) : cakes.get(a[0])[a[1]];
                }
                case "opening": {
                    if (no(a[0], 0, plan.size() - 1)) return -5;
                    return no(a[1], 0, 1) ? -7 : plan.get(a[0])[a[1]];
                }
                case "taken": {
                    if (no(a[1], 0, 6)) return -2;
                    if (no(a[0], 0, 31)) return -12;
                    if (a[0] > 15) return a[1] == 6 ? hot[a[0] - 16] : -13;
                    int c = on(a[0]);
                    if (c < 0) return -11;
                    String[] is = {"0", "01", "02", "013", "024", "05"};
                    return is[cakes.get(c)[0]].indexOf('0' + a[1]) >= 0 ? c : -13;
                }
                case "at": {
                    if (no(a[0], 0, cakes.size() - 1)) return -5;
                    return no(a[1], 0, time) ? -7 : brown(cakes.get(a[0]), a[1]);
                }
                case "end": return no(a[0], 0, 4) ? -2 : end(a[0]);
                case "off": {
                    if (no(a[0], 0, cakes.size() - 1)) return -5;
                    if (no(a[1], 0, 1)) return -7;
                    int[] cake = cakes.get(a[0]);
                    return a[1] == 1 ? bad(cake, time) : away(cake, brown(cake, time));
                }
                case "soon": {
                    if (no(a[0], 0, cakes.size() - 1)) return -5;
                    if (no(a[1], 0, 999)) return -7;
                    for (int t = 0; t <= time; t++) if (brown(cakes.get(a[0]), t) >= a[1]) return t;
                    return -1;
                }
                case "out": {
                    if (no(a[0], 0, cakes.size() - 1)) return -5;
                    if (no(a[1], 0, 1)) return -7;
                    none();
                    for (int t = 0; t <= time; t++) offer(t, bad(cakes.get(a[0]), t));
                    return pick(a[1]);
                }
                case "singly": {
                    long all = 0;
                    for (int[] cake : cakes) {
                        none();
                        for (int t = 0; t <= time; t++) offer(t, bad(cake, t));
                        all += best;
                    }
                    return all;
                }
                default: return 77777777;
            }
        }

        private long end(int what) {
            if (what == 0) return badAll(time);
            if (what == 1) return apart();
            int[] all = browns(time);
            int most = -1, least = -1, right = 0;
            for (int c = 0; c < all.length; c++) {
                if (most < 0 || all[c] > all[most]) most = c;
                if (least < 0 || all[c] < all[least]) least = c;
                if (away(cakes.get(c), all[c]) == 0) right++;
            }
            return what == 2 ? most : what == 3 ? least : right;
        }

        private long think(String name, int[] a) {
            none();
            switch (name) {
                case "when": {
                    if (no(a[0], 0, 1) || no(a[1], 0, 1)) return -2;
                    for (int at = 0; at < 100 * time; at++) {
                        if (at % 100 > 3) continue;
                        plan = Arrays.asList(new int[] {at / 100, at % 100});
                        offer(at, a[0] == 0 ? apart() : badAll(time));
                    }
                    return pick(a[1]);
                }
                case "twice": {
                    if (no(a[0], 0, 1)) return -2;
                    if (time == 1) return -1;
                    for (int at = 0; at < 100 * time; at++) {
                        if (at % 100 >= time || at / 100 >= at % 100) continue;
                        plan = Arrays.asList(new int[] {at / 100, 2}, new int[] {at % 100, 2});
                        offer(at, apart());
                    }
                    return pick(a[0]);
                }
                case "until": {
                    if (no(a[0], 0, 1)) return -2;
                    for (int t = 1; t <= 40; t++) offer(t, badAll(t));
                    return pick(a[0]);
                }
                case "few": {
                    if (no(a[0], 0, 999)) return -2;
                    List<int[]> whole = plan;
                    for (int n = 0; n <= whole.size(); n++) {
                        plan = whole.subList(0, n);
                        if (apart() <= a[0]) return n;
                    }
                    return -1;
                }
                case "fan": {
                    int is = badAll(time);
                    Arrays.fill(hot, Arrays.stream(hot).sum() / 16);
                    return is - badAll(time);
                }
                case "cost": {
                    int is = badAll(time);
                    plan = new ArrayList<>();
                    return is - badAll(time);
                }
                case "which": {
                    if (no(a[0], 0, 1)) return -2;
                    for (lies = 0; lies < 4; lies++) offer(lies, badAll(time));
                    return pick(a[0]);
                }
                case "lay": return lay(a[0], a[1]);
                case "swap": return no(a[0], 0, 1) ? -2 : swap(a[0]);
                case "drawn": {
                    if (no(a[0], 0, 99999) || no(a[1], 0, 1)) return -2;
                    drawHot(a[0]);
                    return a[1] == 0 ? badAll(time) : apart();
                }
                case "odds": {
                    if (no(a[0], 0, 99999) || no(a[1], 1, 20) || no(a[2], 0, 999) || no(a[3], 0, 1)) return HotCorner.NO;
                    int many = 0;
                    for (int i = 0; i < a[1]; i++) {
                        drawHot(a[0] + i);
                        if (apart() <= a[2]) many++;
                    }
                    int by = java.math.BigInteger.valueOf(many).gcd(java.math.BigInteger.valueOf(a[1])).intValue();
                    return (a[3] == 0 ? many : a[1]) / by;
                }
                default: return tins(name, a);
            }
        }

        private long lay(int c, int what) {
            if (no(c, 0, cakes.size() - 1)) return -5;
            if (no(what, 0, 1)) return -7;
            int[] is = cakes.get(c);
            for (int place = 0; place < 16; place++) {
                if (place == is[3] || on(place) < 0) offer(place, bad(new int[] {is[0], is[1], is[2], place}, time));
            }
            return pick(what);
        }

        private long swap(int what) {
            long is = badAll(time);
            for (int i = 0; i < cakes.size(); i++) {
                for (int j = i + 1; j < cakes.size(); j++) {
                    int[] one = cakes.get(i).clone(), other = cakes.get(j).clone();
                    long rest = is - bad(one, time) - bad(other, time);
                    int place = one[3];
                    one[3] = other[3];
                    other[3] = place;
                    offer(10 * i + j, rest + bad(one, time) + bad(other, time));
                }
            }
            if (!any || best >= is) return what == 0 ? -1 : is;
            return pick(what);
        }

        private long tins(String name, int[] a) {
            int refused = sheetWrong(a[0]);
            if (refused != 0) return name.equals("turned") ? HotCorner.NO : refused;
            long bits = 0;
            switch (name) {
                case "judge": return firstWrong(a[0]);
                case "how": {
                    for (lies = 0; lies < 4; lies++) if (firstWrong(a[0]) == -1) bits += Math.pow(2, lies);
                    return bits;
                }
                case "kinds": {
                    if (no(a[1], 0, cakes.size() - 1)) return -5;
                    if (no(a[2], 0, 1)) return -7;
                    int was = cakes.get(a[1])[a[2]];
                    for (int v = 0; v < (a[2] == 0 ? 6 : 10); v++) {
                        cakes.get(a[1])[a[2]] = v;
                        if (firstWrong(a[0]) == -1) bits += Math.pow(2, v);
                    }
                    cakes.get(a[1])[a[2]] = was;
                    return bits;
                }
                case "heats": {
                    if (no(a[1], 0, 15)) return -6;
                    if (no(a[2], 0, 2)) return -7;
                    List<Integer> so = new ArrayList<>();
                    for (int v = 0; v < 100; v++) {
                        hot[a[1]] = v;
                        if (firstWrong(a[0]) == -1) so.add(v);
                    }
                    if (a[2] == 0) return so.size();
                    return so.isEmpty() ? -1 : so.get(a[2] == 1 ? 0 : so.size() - 1);
                }
                case "turned": {
                    for (int t = 0; t < time; t++) {
                        plan = Arrays.asList(new int[] {t, 2});
                        if (firstWrong(a[0]) == -1) bits += Math.pow(2, t);
                    }
                    return bits;
                }
                default: {
                    for (law = 0; law < texts.size(); law++) if (firstWrong(a[0]) == -1) bits += Math.pow(2, law);
                    return bits;
                }
            }
        }
    }
}
