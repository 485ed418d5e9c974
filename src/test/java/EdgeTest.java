import java.io.IOException;
import java.nio.file.Files;
import java.nio.file.Path;
import java.util.ArrayList;
import java.util.BitSet;
import java.util.List;
import java.util.TreeMap;
import java.util.regex.Matcher;
import java.util.regex.Pattern;

/**
 * Each sentence of ../shared/DOC.md that names a boundary has a test of its own here, and is told with its words.
 * The words must stand in the document at that promise (0: the terms), and none of its words that name a boundary
 * may be left without a test.
 */
public final class EdgeTest {
    private static final int LOWEST = Integer.MIN_VALUE, HIGHEST = Integer.MAX_VALUE;
    private static int wrong = 0;
    private static String of = "";

    public static void main(String[] args) throws IOException {
        readDocument();
        theTin();
        thePlanAndCakes();
        kinds();
        tokens();
        grammar();
        faults();
        texts();
        baking();
        endsAndLots();
        refusals();
        ovenAndLaw();
        feedAndText();
        forceAndAsks();
        cakesAndPlaces();
        openings();
        bakingAsked();
        whenToTurn();
        whenToTakeOut();
        enough();
        whereToLay();
        toldTins();
        toldKindsAndHeats();
        toldTurnsAndLaws();
        byLot();
        kept();
        sheets();
        copies();
        cakesBySheet();
        takings();
        leftOver();
        System.out.println(wrong == 0 ? "every edge holds" : wrong + " edges do not hold");
        if (wrong != 0) {
            System.exit(1);
        }
    }

    // ---- the document

    private static final TreeMap<Integer, String> DOCUMENT = new TreeMap<>();
    private static final TreeMap<Integer, BitSet> TESTED = new TreeMap<>();

    private static void readDocument() throws IOException {
        String whole = Files.readString(Path.of("../shared/DOC.md")).replaceAll("\\s+", " ").replaceAll("======== \\d ", "");
        int terms = whole.indexOf("## Terms");
        keep(0, whole.substring(terms, whole.indexOf("Ahead of the calls `count`", terms)));
        Matcher promise = Pattern.compile("## Promise (\\d+): [^`]*`[^`]*`: (.*?)(?=## )").matcher(whole);
        while (promise.find()) {
            keep(Integer.parseInt(promise.group(1)), promise.group(2));
        }
        due("promises", DOCUMENT.size(), 47);
    }

    private static void keep(int promise, String text) {
        DOCUMENT.put(promise, text);
        TESTED.put(promise, new BitSet());
    }

    private interface Test {
        void run();
    }

    private static void edge(int promise, String words, Test test) {
        of = (promise == 0 ? "terms" : "promise " + promise) + ", \"" + words + "\"";
        int from = DOCUMENT.get(promise).indexOf(words);
        if (from < 0) {
            wrong("these words do not stand there");
        } else {
            TESTED.get(promise).set(from, from + words.length());
        }
        test.run();
    }

    private static void leftOver() {
        Pattern bound = Pattern.compile("\\.\\.|\\bBAD\\b|\\bSTATE\\b|\\bFULL\\b|\\bNO\\b|-\\d+|\\d+|\\bat most\\b|\\bat least\\b"
            + "|\\bcut\\b|\\bnone?\\b|\\bfewest\\b|\\bleast\\b|\\bfirst\\b|\\bmissing\\b|\\bpass\\b|\\bbelow\\b|\\babove\\b"
            + "|\\bahead\\b|\\bempty\\b|\\btoo\\b|\\bwrapping\\b|\\brefused\\b|\\bother\\b|\\bmatter\\b|\\bown\\b");
        for (int promise : DOCUMENT.keySet()) {
            of = promise == 0 ? "terms" : "promise " + promise;
            Matcher found = bound.matcher(DOCUMENT.get(promise));
            while (found.find()) {
                if (!found.group().isEmpty() && TESTED.get(promise).nextClearBit(found.start()) < found.end()) {
                    String rest = DOCUMENT.get(promise).substring(found.start());
                    wrong("no test of '" + rest.substring(0, Math.min(60, rest.length())) + " ..'");
                }
            }
            if (TESTED.get(promise).isEmpty()) {
                wrong("no test");
            }
        }
    }

    // ---- helpers

    private static void wrong(String what) {
        wrong++;
        System.out.println(of + ": " + what);
    }

    private static void due(String call, long got, long want) {
        if (got != want) {
            wrong(call + " answered " + got + ", due is " + want);
        }
    }

    private static void feed(HotCorner x, String text) {
        for (int i = 0; i < text.length(); i += 5) {
            int[] b = new int[5];
            int n = Math.min(5, text.length() - i);
            for (int k = 0; k < n; k++) {
                b[k] = text.charAt(i + k);
            }
            x.feed(n, b[0], b[1], b[2], b[3], b[4]);
        }
    }

    private static int read(HotCorner x, String text) {
        feed(x, text);
        return x.text();
    }

    private static HotCorner by(String text) {
        HotCorner x = new HotCorner();
        int t = read(x, text);
        if (t != 1) {
            wrong("the text '" + text + "' answered " + t);
        }
        x.force(1);
        return x;
    }

    private static String blanks(int n) {
        return " ".repeat(n);
    }

    private static void row(HotCorner x, int s, int sort, int... v) {
        x.sheet(s, sort, v.length);
        for (int i = 0; i < v.length; i++) {
            x.cell(s, i, v[i]);
        }
    }

    private static void allHot(HotCorner x, int v) {
        for (int spot = 0; spot < 16; spot++) {
            x.set(0, spot, v);
        }
    }

    // ---- what must not change

    private interface Call {
        long of(HotCorner x);
    }

    private interface Change {
        void to(HotCorner x);
    }

    private static HotCorner rich() {
        HotCorner x = ofEmptyTape();
        feed(x, "browns 1;cools 2;minds 3;");
        return x;
    }

    private static HotCorner ofEmptyTape() {
        HotCorner x = new HotCorner();
        read(x, "browns heat+more;cools 3;minds 2;");
        x.force(1);
        x.set(0, 5, 40);
        x.set(0, 10, 7);
        x.set(1, 0, 8);
        x.set(2, 0, 1);
        x.cake(12, 100, 5);
        x.cake(43, 50, 6);
        x.open(2, 1);
        x.image();
        x.cake(51, 80, 10);
        x.open(5, 3);
        x.move(0, 4);
        x.set(0, 4, 33);
        row(x, 0, 2, 1, 2, 3, 14, 15, 11);
        row(x, 1, 1, 25, 26, 12);
        row(x, 2, 0, 33, 34, 13);
        return x;
    }

    /** All that can be seen of an object by calls; it is of no use behind that. */
    private static List<String> seen(HotCorner x) {
        List<String> all = new ArrayList<>();
        standing(x, all);
        for (int s = 0; s < 4; s++) {
            for (int n = 0; n <= 40; n += n < 12 ? 1 : 28) {
                all.add("sheet " + s + " has " + n + " or more: " + x.copy(s, n, s, n, 0));
            }
        }
        all.add("text() " + x.text());
        all.add("force " + x.force(x.count(4) - 1));
        all.add("asks " + x.asks(0, 1234, 56, 78) + " " + x.asks(1, 1234, 56, 78) + " " + x.asks(2, 1234, 56, 78));
        all.add("back() " + x.back());
        standing(x, all);
        x.image();
        for (int s = 0; s < 4; s++) {
            for (int sort = 0; sort < 3; sort++) {
                all.add("cakes by " + s + " of " + sort + ": " + x.cakesBy(s, sort, 0, 2));
            }
            cakesOf(x, all);
            x.back();
        }
        return all;
    }

    private static void standing(HotCorner x, List<String> all) {
        for (int what = 0; what < 7; what++) {
            all.add("count(" + what + ") " + x.count(what));
        }
        for (int spot = 0; spot < 16; spot++) {
            all.add("hot(" + spot + ") " + x.hot(spot));
        }
        cakesOf(x, all);
        for (int k = 0; k < x.count(3); k++) {
            all.add("opening " + k + ": " + x.opening(k, 0) + " " + x.opening(k, 1));
        }
        all.add("end " + x.end(0) + " " + x.end(1));
    }

    private static void cakesOf(HotCorner x, List<String> all) {
        for (int c = 0; c < x.count(0); c++) {
            all.add("cake " + c + ": " + x.told(c, 0) + " " + x.told(c, 1) + " " + x.told(c, 2) + " " + x.told(c, 3));
        }
    }

    private static void alike(String call, HotCorner got, HotCorner want) {
        List<String> is = seen(got);
        List<String> should = seen(want);
        for (int i = 0; i < Math.max(is.size(), should.size()); i++) {
            String one = i < is.size() ? is.get(i) : "nothing";
            String other = i < should.size() ? should.get(i) : "nothing";
            if (!one.equals(other)) {
                wrong("behind " + call + " there is '" + one + "', due is '" + other + "'");
                return;
            }
        }
    }

    /** The call answers so, and changes nothing. */
    private static void refused(Change ahead, String call, Call one, long want) {
        HotCorner x = rich();
        HotCorner y = rich();
        ahead.to(x);
        ahead.to(y);
        due(call, one.of(x), want);
        alike(call, x, y);
    }

    private static void refused(String call, Call one, long want) {
        refused(x -> { }, call, one, want);
    }

    private static void fullOfCakes(HotCorner x) {
        for (int place = 0; x.count(0) < 8; place++) {
            x.cake(0, 0, place);
        }
    }

    private static void fullOfTexts(HotCorner x) {
        while (x.count(6) > 0 && x.count(4) < 6) {
            x.text();
        }
        while (x.count(4) < 6) {
            read(x, "browns 1;cools 1;minds 1;");
        }
    }

    // ---- terms: the tin, the plan, cakes

    private static void theTin() {
        edge(0, "SPOTS 0 .. 15: 4 times y, and x (0 .. 3 each), each so HOT (0 .. 99; 10 at first). THE TIN has PLACES 0 .. 15 likewise.", () -> {
            HotCorner x = by("browns heat;cools 0;minds 1;");
            x.set(1, 0, 1);
            for (int place = 0; place < 16; place++) {
                due("hot at first", x.hot(place), 10);
                x.set(0, place, 3 * place);
            }
            for (int place = 0; place < 8; place++) {
                due("a cake", x.cake(0, 0, place), place);
                due("its spot", x.at(place, 1), 3 * place);
                x.move(place, 15 - place);
                due("its spot then", x.at(place, 1), 3 * (15 - place));
            }
            x.set(0, 15, 99);
            due("hottest", x.at(0, 1), 99);
            x.set(0, 15, 0);
            due("coldest", x.at(0, 1), 0);
        });
        edge(0, "TURNED by a quarter the PLACE at x, y is over the SPOT where x is 3 less y, and y is x; by more quarters so again and again; by 0 over the SPOT of its number.", () -> {
            HotCorner x = by("browns heat;cools 0;minds 1;");
            for (int spot = 0; spot < 16; spot++) {
                x.set(0, spot, spot);
                int turned = x.spot(spot, 1);
                due("x", turned % 4, 3 - spot / 4);
                due("y", turned / 4, spot % 4);
                due("twice", x.spot(spot, 2), x.spot(turned, 1));
                due("three times", x.spot(spot, 3), x.spot(x.spot(turned, 1), 1));
                due("four times", x.spot(x.spot(spot, 3), 1), spot);
                due("by 0", x.spot(spot, 0), spot);
            }
            x.set(1, 0, 1);
            x.cake(0, 0, 6);
            for (int lies = 0; lies < 4; lies++) {
                x.set(2, 0, lies);
                for (int more = 0; more < 4; more++) {
                    x.shut();
                    x.open(0, more);
                    due("lying by " + lies + ", turned by " + more, x.at(0, 1), x.spot(6, (lies + more) % 4));
                }
            }
            x.set(1, 0, 6);
            x.set(2, 0, 3);
            x.shut();
            for (int minute = 0; minute < 6; minute++) {
                x.open(minute, 3);
            }
            int all = 0;
            for (int minute = 0; minute < 6; minute++) {
                all += x.spot(6, (3 + 3 * (minute + 1)) % 4);
                due("turned by three again and again", x.at(0, minute + 1), all);
            }
        });
        edge(0, "It LIES by so many quarters at first (0 .. 3; 0).", () -> {
            HotCorner x = by("browns heat;cools 0;minds 1;");
            due("at first", x.count(2), 0);
            x.set(0, 0, 1);
            x.set(0, 3, 2);
            x.set(0, 15, 3);
            x.set(0, 12, 4);
            x.set(1, 0, 2);
            x.cake(0, 0, 0);
            for (int lies = 0; lies < 4; lies++) {
                x.set(2, 0, lies);
                due("lying by " + lies, x.at(0, 2), 2 * (lies + 1));
            }
            x.open(1, 1);
            due("turned from 3 to 0", x.at(0, 2), 4 + 1);
            due("it lies as told all the same", x.count(2), 3);
        });
        edge(0, "TIME: so many MINUTES (1 .. 40; 20 at first), numbered from 0 on.", () -> {
            HotCorner x = by("browns minute=0;cools 0;minds 1;");
            HotCorner y = by("browns minute=39;cools 0;minds 1;");
            x.cake(0, 0, 0);
            y.cake(0, 0, 0);
            due("at first", x.count(1), 20);
            x.set(1, 0, 1);
            due("minute 0 alone", x.at(0, 1), 1);
            x.set(1, 0, 40);
            due("minute 0 once", x.at(0, 40), 1);
            y.set(1, 0, 39);
            due("38 is the last of 39", y.at(0, 39), 0);
            y.set(1, 0, 40);
            due("39 is the last of 40", y.at(0, 40), 1);
        });
    }

    private static void thePlanAndCakes() {
        edge(0, "THE PLAN: up to 6 OPENINGS, each at a MINUTE (0 .. 39) above that of the one ahead, with QUARTERS (0 .. 3) by which THE TIN is TURNED more then.", () -> {
            HotCorner x = by("browns since=0;cools 0;minds 1;");
            x.set(1, 0, 40);
            x.cake(0, 0, 0);
            due("none: minute 0 is since 0", x.at(0, 40), 1);
            int[] minutes = {0, 1, 7, 30, 38, 39};
            for (int k = 0; k < 6; k++) {
                due("opening", x.open(minutes[k], k & 3), k + 1);
            }
            due("a seventh one", x.open(39, 0), -3);
            due("each comes", x.at(0, 40), 6);
            for (int k = 0; k < 6; k++) {
                due("ahead of it", x.at(0, minutes[k]), k);
                due("behind it", x.at(0, minutes[k] + 1), k + 1);
            }
        });
        edge(0, "CAKES are numbered from 0 on, 8 at most: of a KIND, with MORE (0 .. 9), WISH (0 .. 999), on a PLACE, no two on one.", () -> {
            HotCorner x = by("browns more;cools 0;minds 1;");
            x.set(1, 0, 1);
            for (int c = 0; c < 8; c++) {
                due("cake", x.cake(c == 0 ? 0 : c + 2, c == 0 ? 0 : 992 + c, c == 0 ? 0 : 8 + c), c);
            }
            due("a ninth one", x.cake(0, 0, 1), -4);
            due("MORE 0", x.at(0, 1), 0);
            due("MORE 9", x.at(7, 1), 9);
            due("WISH 0", x.off(0, 0), 0);
            due("WISH 999", x.off(7, 0), 990);
            due("two on one", x.move(0, 15), -3);
            due("two on one", x.cake(0, 0, 15), -3);
        });
    }

    // ---- terms: kinds

    /** How BROWN a cake is behind 1 minute, the text saying so much. */
    private static int browner(int said, int kindMore) {
        HotCorner x = by("browns " + said + ";cools 0;minds 1;");
        x.cake(kindMore, 0, 0);
        return x.at(0, 1);
    }

    private static void begins(int kind, int... due) {
        for (int more = 0; more < 10; more++) {
            HotCorner x = by("browns 10;cools 0;minds 1;");
            x.cake(10 * kind + more, 0, 0);
            due("begins with " + more, x.told(0, 4), due[more]);
            due("first browner with " + more, x.soon(0, 1), due[more] + 1);
        }
    }

    /** How far one is OFF that is 200 BROWN (of no kind that is SUGARED). */
    private static int off(int kind, int wish) {
        HotCorner x = by(kind == 1 || kind == 3 ? "browns 75;cools 0;minds 1;" : "browns 50;cools 0;minds 1;");
        x.cake(10 * kind, wish, 0);
        x.set(1, 0, kind == 3 ? 6 : 4);
        due("kind " + kind + " is so brown", x.at(0, x.count(1)), 200);
        return x.off(0, 0);
    }

    private static void kinds() {
        edge(0, "KINDS: how much browner one gets, the text saying so much, being so BROWN; in which MINUTE it BEGINS to; how far it is OFF, being so BROWN. 0 CAKE: that; 0; how far BROWN and WISH are apart.", () -> {
            due("0", browner(0, 9), 0);
            due("1", browner(1, 9), 1);
            due("99", browner(99, 9), 99);
            begins(0, 0, 0, 0, 0, 0, 0, 0, 0, 0, 0);
            due("just so", off(0, 200), 0);
            due("1 too pale", off(0, 201), 1);
            due("1 too brown", off(0, 199), 1);
            due("far too brown", off(0, 0), 200);
            due("far too pale", off(0, 999), 799);
        });
        edge(0, "1 THICK (a CAKE): that times 2 by 3 (cut); BEGINS MORE by 3 (cut) later.", () -> {
            int[] due = {0, 0, 1, 2, 2, 3, 4, 4};
            for (int said = 0; said < 8; said++) {
                due("the text saying " + said, browner(said, 10), due[said]);
            }
            due("99", browner(99, 12), 66);
            due("98", browner(98, 12), 65);
            begins(1, 0, 0, 0, 1, 1, 1, 2, 2, 2, 3);
        });
        edge(0, "2 THIN (a CAKE): MORE by 2 (cut) more.", () -> {
            int[] due = {0, 0, 1, 1, 2, 2, 3, 3, 4, 4};
            for (int more = 0; more < 10; more++) {
                due("with " + more, browner(0, 20 + more), due[more]);
                due("with " + more, browner(99, 20 + more), 99 + due[more]);
            }
        });
        edge(0, "3 FROZEN (a THICK): BEGINS at twice that, and 2.", () ->
            begins(3, 2, 2, 2, 4, 4, 4, 6, 6, 6, 8));
        edge(0, "4 SUGARED (a THIN): three times as much, if BROWN is above 10 times MORE and 20, together;", () -> {
            for (int more = 0; more < 10; more++) {
                int bound = 10 * more + 20;
                int thin = more / 2;
                // one minute up to the bound, or by 1 above it; what is above 99 takes two
                HotCorner x = by("browns brown*0+" + (bound > 60 ? bound / 2 - thin : bound - thin) + ";cools 0;minds 1;");
                x.cake(40 + more, 0, 0);
                int minutes = bound > 60 ? 2 : 1;
                due("at the bound, " + more, x.at(0, minutes), bound);
                int step = bound / minutes;
                due("not above it, " + more, x.at(0, minutes + 1), bound + step);
                due("above it, " + more, x.at(0, minutes + 2), bound + step + 3 * step);
                HotCorner y = by("browns (minute=0)*" + (bound + 1 - 2 * thin > 99 ? 99 : bound + 1 - 2 * thin)
                    + "+(minute=1)*" + (bound + 1 - 2 * thin > 99 ? bound + 1 - 2 * thin - 99 : 0) + ";cools 0;minds 1;");
                y.cake(40 + more, 0, 0);
                due("1 above the bound, " + more, y.at(0, 2), bound + 1);
                due("three times MORE by 2, " + more, y.at(0, 3), bound + 1 + 3 * thin);
            }
        });
        edge(0, "OFF twice as much, if BROWN is above WISH.", () -> {
            HotCorner x = by("browns 20;cools 0;minds 1;");
            x.set(1, 0, 1);
            x.cake(40, 20, 0);
            x.cake(40, 21, 1);
            x.cake(40, 19, 2);
            x.cake(40, 0, 3);
            x.cake(40, 999, 4);
            int[] due = {0, 1, 2, 40, 979};
            for (int c = 0; c < 5; c++) {
                due("off(" + c + ", 0)", x.off(c, 0), due[c]);
            }
        });
        edge(0, "5 GRANDFATHERS (a CAKE): OFF 0, if BROWN is WISH or more.", () -> {
            due("just so", off(5, 200), 0);
            due("1 too pale", off(5, 201), 1);
            due("1 too brown", off(5, 199), 0);
            due("far too brown", off(5, 0), 0);
            due("far too pale", off(5, 999), 799);
        });
        edge(0, "(Whatever isn't told is as of the KIND above.)", () -> {
            due("THICK is OFF", off(1, 190), 10);
            due("THICK is OFF", off(1, 210), 10);
            due("THIN is OFF", off(2, 190), 10);
            due("THIN is OFF", off(2, 210), 10);
            due("FROZEN is OFF", off(3, 190), 10);
            due("FROZEN is OFF", off(3, 210), 10);
            begins(2, 0, 0, 0, 0, 0, 0, 0, 0, 0, 0);
            begins(4, 0, 0, 0, 0, 0, 0, 0, 0, 0, 0);
            begins(5, 0, 0, 0, 0, 0, 0, 0, 0, 0, 0);
            due("GRANDFATHERS get as brown", browner(10, 59), 10);
            due("SUGARED get as brown as THIN", browner(10, 49), 14);
            HotCorner x = by("browns 5;cools 0;minds 1;");
            x.cake(30, 0, 0);
            due("FROZEN gets as brown as THICK", x.at(0, 3), 3);
        });
    }

    // ---- terms: texts

    private static void fault(String text, int place) {
        HotCorner x = new HotCorner();
        due("text '" + text + "'", read(x, text), -100 - place);
        due("texts behind '" + text + "'", x.count(4), 1);
    }

    private static void good(String text) {
        due("text '" + text + "'", read(new HotCorner(), text), 1);
    }

    private static void tokens() {
        edge(0, "A TEXT is read from THE TAPE (160 bytes at most).", () -> {
            String text = "browns 1;cools 2;minds 3;";
            good(text + blanks(160 - text.length()));
            good(blanks(160 - text.length()) + text);
            fault(blanks(160), 160);
            fault(blanks(159) + "?", 159);
            fault(text + blanks(134) + "x", 159);
            HotCorner x = new HotCorner();
            feed(x, text + blanks(135));
            due("no more room", x.feed(1, ' ', 0, 0, 0, 0), -4);
            due("all of it", x.text(), 1);
        });
        edge(0, "TOKENS, each as long as can be: WORDS (as many letters a .. z as stand there)", () -> {
            fault("brownsheat;", 0);
            fault("browns heatmore;", 7);
            fault("browns notheat;", 7);
            fault("browns not not1;cool 1", 16);
            good("browns1;cools2;minds3;");
            fault("brown s 1;", 0);
            fault("browns 1 or1;coolsx", 13);
            fault("browns `;", 7);
            fault("browns {;", 7);
            fault("browns A;", 7);
            fault("browns Z;", 7);
            fault("browns heat{;", 11);
            fault("browns heat`;", 11);
            fault("browns a;", 7);
            fault("browns z;", 7);
        });
        edge(0, "NUMBERS (as many digits as stand there; more than 4 are too long)", () -> {
            good("browns 9999;cools 0;minds 0000;");
            fault("browns 10000;", 7);
            fault("browns 00000;", 7);
            fault("browns 123456789012345678901234567890;", 7);
            fault("browns 1 2;", 9);
            fault("browns 1\n2;", 9);
            fault("browns /1;", 7);
            fault("browns 1/1;", 8);
            fault("browns :1;", 7);
            fault("browns 1:1;", 8);
            good("browns 0*9;cools 9;minds 1;");
        });
        edge(0, "SIGNS ( ) ; + - * < = ; blanks (32, 10) may stand between.", () -> {
            good("browns(1+2-3*4)<5;cools(1)=2;minds--1;");
            good(" \n browns\n( 1 + 2\n- 3 * 4 ) < 5 ; cools\n(\n1\n)\n=\n2\n;\nminds - - 1 ; \n\n");
            int[] none = {0, 1, 9, 11, 12, 13, 31, 33, 34, 37, 39, 44, 46, 47, 58, 62, 63, 64, 91, 95, 96, 123, 126, 127, 128, 160, 255};
            for (int b : none) {
                fault("browns 1" + (char) b + ";", 8);
                fault((char) b + "browns 1;", 0);
                fault("browns 1;cools 2;minds 3;" + (char) b, 25);
            }
        });
    }

    /** What a text of browns says of heat 12, minute 34, brown 56, more 3, since 78, of 2 openings. */
    private static void says(String e, int want) {
        HotCorner x = by("browns " + e + ";cools 1;minds 1;");
        x.cake(3, 0, 0);
        x.open(0, 0);
        x.open(1, 0);
        due("what '" + e + "' says", x.asks(0, 1234, 56, 78), want);
    }

    private static void grammar() {
        edge(0, "TEXT: browns E ; cools E ; minds E ; E: AND { or AND }. AND: NOT { and NOT }. NOT: not NOT, or SUM, perhaps < or = and a SUM. SUM: TERM { + or - TERM }. TERM: ONE { * ONE }. ONE: a NUMBER, a NAME, - ONE, ( E ). NAMES: heat minute brown more since openings.", () -> {
            says("1 or 1 and 0", 1);
            says("0 and 0 or 1", 1);
            says("0 or 0 or 0 or 1", 1);
            says("1 and 1 and 1 and 0", 0);
            says("not 1 and 0", 0);
            says("not 0 and 1", 1);
            says("not (1 and 0)", 1);
            says("not 1 < 1", 1);
            says("not 3 = 3", 0);
            says("1 + 1 < 1 + 2", 1);
            says("1 < 1 + 1", 1);
            fault("browns 1<2<3;", 10);
            fault("browns 1<2=3;", 10);
            fault("browns 1=2<3;", 10);
            says("(1<2)<3", 1);
            says("20-5-3", 12);
            says("20-5+3", 18);
            says("2+3*4", 14);
            says("2*3+4", 10);
            says("2*3*4", 24);
            says("-2*-3", 6);
            says("9--2", 11);
            says("9-2*-3", 15);
            says("((((7))))", 7);
            says("heat*0+heat", 12);
            says("minute", 34);
            says("brown", 56);
            says("more", 3);
            says("since", 78);
            says("openings", 2);
            fault("browns 1+not 1;", 9);
            fault("browns 1<not 1;", 9);
            fault("browns -not 1;", 8);
            fault("browns 1 or not;", 15);
            fault("cools 1;browns 1;minds 1;", 0);
            fault("browns 1;minds 1;cools 1;", 9);
            fault("browns 1;cools 1;cools 1;", 17);
            fault("browns 1 cools 1;", 9);
            fault("browns;", 6);
        });
        edge(0, "An E is an int (32 bits, wrapping): of or, and, not, <, = 1 or 0 (what is not 0 is true).", () -> {
            // 8192 * 8192 * 32 is the lowest int
            says("8192*8192*32<0", 1);
            says("8192*8192*32-1<0", 0);
            says("0<8192*8192*32-1", 1);
            says("-(8192*8192*32)<0", 1);
            says("-(8192*8192*32)=8192*8192*32", 1);
            says("8192*8192*64=0", 1);
            says("8192*8192*32-1+1<0", 1);
            says("(8192*8192*32-1)*(8192*8192*32-1)", 1);
            says("8192*8192*64+5", 5);
            says("9999*9999*43=4173*1000-253", 1);
            says("8192*8192*32<8192*8192*32-1", 1);
            says("8192*8192*32 and 1", 1);
            says("not 8192*8192*32", 0);
            says("not 8192*8192*64", 1);
            says("5 or 0", 1);
            says("0 or 0", 0);
            says("0 or -3", 1);
            says("5 and -2", 1);
            says("4 and 2", 1);
            says("0 and 9", 0);
            says("not 0", 1);
            says("not 9", 0);
            says("not -1", 0);
            says("not not 9", 1);
            says("3<3", 0);
            says("2<3", 1);
            says("3=3", 1);
            says("3=2", 0);
            says("7", 7);
            says("(5 or 0)+(3=3)", 2);
            says("5+(0 or 0)", 5);
            says("5+(0 and 7)", 5);
            says("5+(not 7)", 5);
            says("5+(3<3)", 5);
            says("5+(3=2)", 5);
            says("5+(7 or 0)+(7 and 7)+(not 0)+(2<3)+(3=3)", 10);
        });
    }

    private static void faults() {
        edge(0, "FAULT: the place of the first byte of the first TOKEN that can't stand there (the text's size, if it ends too early)", () -> {
            fault("heat", 0);
            fault("  heat", 2);
            fault("browns  heat heat", 13);
            fault("browns 1 )", 9);
            fault("browns ();", 8);
            fault("browns (1;", 9);
            fault("browns (1 1);", 10);
            fault("browns (;);", 8);
            fault("browns (1;);", 9);
            fault("browns 1;cools 1;minds 1; browns", 26);
            fault("browns 1;cools 1;minds 1;;", 25);
            fault("browns ? heat heat 12345", 7);
            fault("browns 1 1 ?", 9);
            fault("", 0);
            fault(" ", 1);
            fault("\n\n", 2);
            fault("browns", 6);
            fault("browns ", 7);
            fault("browns 1", 8);
            fault("browns 1;", 9);
            fault("browns 1;cools 1;minds 1", 24);
            fault("browns 1;cools 1;minds 1 \n ", 27);
            fault("browns (1", 9);
            fault("browns 1+", 9);
            fault("browns not", 10);
            fault("browns -", 8);
        });
        edge(0, "also of a byte that begins none, of a WORD that is neither KEY nor NAME, a NUMBER that is too long,", () -> {
            fault("browns 1;cools 1;minds $", 23);
            fault("$", 0);
            fault("browns 1 $ 1;", 9);
            fault("browns heaty;", 7);
            fault("browns hea;", 7);
            fault("browns 1 xor 1;", 9);
            fault("browns xeat;", 7);
            fault("browns hext;", 7);
            fault("browns heax;", 7);
            fault("xrowns 1;", 0);
            fault("browns not abc 1;", 11);
            fault("browns -abc 1;", 8);
            fault("browns (abc 1;", 8);
            fault("browns not ? 1;", 11);
            fault("browns -? 1;", 8);
            fault("browns (? 1;", 8);
            fault("browns not 12345 1;", 11);
            fault("browns - 12345 1;", 9);
            fault("cakes 1;", 0);
            fault("browns 1;cools oven;", 15);
            fault("browns 1+12345;", 9);
            fault("browns 1;cools 1;minds 99999;", 23);
        });
        edge(0, "a ( , a not, a - ahead of a ONE while 5 of these are open", () -> {
            good("browns(((((1)))));cools-----1;minds not not not not not 1;");
            fault("browns((((((1))))));", 11);
            fault("browns------1;", 11);
            fault("browns not not not not not not 1;", 27);
            fault("browns not(-(not(1)));", 16);
            fault("browns not(-(not-1));", 16);
            fault("browns not((not(not 1)));", 16);
            fault("browns((((( ( 1", 12);
            fault("browns((((( - 1", 12);
            fault("browns((((( not 1", 12);
            good("browns(((((1-2-3)))));cools(((((1)))));minds 1;");
            good("browns not(-(-9-8-7));cools 1;minds 1;");
        });
        edge(0, "(a ( till its ) , not and - till what they belong to ends).", () -> {
            good("browns(((((1)))))+(((((2)))))*-----3;cools 1;minds 1;");
            good("browns -1*-1*-1*-1*-1*-1*-1;cools 1;minds 1;");
            good("browns -1+-----1;cools 1;minds 1;");
            good("browns not 1 and not not not not not 1 or not 1;cools 1;minds 1;");
            good("browns not 1<----2;cools 1;minds 1;");
            fault("browns not 1<-----2;", 17);
            fault("browns not -----2;", 15);
            fault("browns not 1+-----2;", 17);
            fault("browns not 1*-----2;", 17);
            fault("browns not 1=(((((2", 17);
            good("browns((((1)+1)+1)+1)*(((((1)))));cools 1;minds 1;");
            fault("browns((((1)+1)+1)+(((((1", 23);
            good("browns((((1)+1)+1)+(((1))));cools 1;minds 1;");
            fault("browns(((((1)+(1)))+((((1", 23);
            good("browns -(-(-1))*-(-(-1));cools 1;minds 1;");
        });
    }

    private static void texts() {
        edge(0, "TEXTS are numbered from 0 on, 6 at most; TEXT 0, at first, and THE LAW: browns heat * 2 ; cools ( since < 3 ) * 5 ; minds 1 ;", () -> {
            HotCorner x = new HotCorner();
            due("texts at first", x.count(4), 1);
            due("the law at first", x.count(5), 0);
            x.cake(0, 0, 0);
            due("browns", x.asks(0, 100, 0, 0), 2);
            due("browns", x.asks(0, 4900, 0, 0), 98);
            due("cools", x.asks(1, 0, 0, 2), 5);
            due("cools", x.asks(1, 0, 0, 3), 0);
            due("minds", x.asks(2, 0, 0, 0), 1);
            for (int t = 1; t < 6; t++) {
                due("a text", read(x, "browns " + t + ";cools 1;minds 1;"), t);
            }
            due("a seventh one", read(x, "browns 7;cools 1;minds 1;"), -4);
            for (int t = 1; t < 6; t++) {
                x.force(t);
                due("that text", x.asks(0, 0, 0, 0), t);
            }
        });
        edge(0, "(0 .. 99 each, else the bound)", () -> {
            HotCorner x = by("browns 99;cools 99;minds 99;");
            HotCorner y = by("browns 100;cools 9999;minds 9999*9999;");
            HotCorner z = by("browns -1;cools 0-9999;minds -9999*9999;");
            HotCorner w = by("browns 0;cools 0;minds 0;");
            HotCorner v = by("browns 8192*8192*32;cools 8192*8192*32-1;minds 98;");
            for (HotCorner one : new HotCorner[] {x, y, z, w, v}) {
                one.cake(0, 100, 0);
                one.set(1, 0, 1);
            }
            for (int part = 0; part < 3; part++) {
                due("99", x.asks(part, 0, 0, 0), 99);
                due("above", y.asks(part, 0, 0, 0), 99);
                due("below", z.asks(part, 0, 0, 0), 0);
                due("0", w.asks(part, 0, 0, 0), 0);
            }
            due("the lowest", v.asks(0, 0, 0, 0), 0);
            due("the highest", v.asks(1, 0, 0, 0), 99);
            due("98", v.asks(2, 0, 0, 0), 98);
            due("in baking", y.at(0, 1), 99);
            due("in baking", z.at(0, 1), 0);
            due("in BADNESS", y.end(0), 99);
            due("in BADNESS", z.end(0), 0);
            y.force(read(y, "browns heat;cools 100;minds 100;"));
            y.set(0, 0, 99);
            y.open(0, 0);
            due("cooled by 99 at most", y.at(0, 1), 0);
            z.force(read(z, "browns heat;cools -5;minds -1;"));
            z.open(0, 0);
            due("cooled by 0 at least", z.at(0, 1), 10);
        });
        edge(0, "of a CAKE: brown: BROWN (as the MINUTE begins; of minds as told there); more: MORE; openings: how many OPENINGS THE PLAN has; heat, minute, since as told below (of minds in BADNESS 0; asks() takes those of the call).", () -> {
            HotCorner x = by("browns brown+1;cools brown;minds brown-900;");
            x.cake(0, 0, 0);
            due("brown 0 at first", x.at(0, 1), 1);
            due("brown as each begins", x.at(0, 6), 63);
            HotCorner y = by("browns heat;cools brown;minds 1;");
            y.cake(0, 0, 0);
            y.open(0, 0);
            due("cools, too", y.at(0, 1), 10);
            due("cools, too", y.at(0, 2), 10);
            for (String name : new String[] {"heat", "minute", "since"}) {
                HotCorner z = by("browns 0;cools 0;minds 3+" + name + ";");
                z.cake(0, 1, 0);
                z.open(1, 0);
                due(name + " 0 in BADNESS", z.off(0, 1), 3);
                due(name + " 0 in BADNESS of all", z.end(0), 3);
                due(name + " 0 in BADNESS by a minute", z.out(0, 1), 3);
                due(name + " of the call", z.asks(2, 3030, 0, 30), 33);
            }
            HotCorner w = by("browns 5;cools 0;minds brown=95;");
            w.cake(0, 0, 0);
            due("minds takes it as at the end", w.off(0, 1), 0);
            w.set(1, 0, 19);
            due("minds takes it as at the end", w.off(0, 1), 95);
            due("minds takes it as of then", w.out(0, 1), 0);
            HotCorner v = by("browns openings+more*10;cools 0;minds 1;");
            v.cake(0, 0, 0);
            v.cake(9, 0, 1);
            v.set(1, 0, 1);
            due("no openings, MORE 0", v.at(0, 1), 0);
            due("no openings, MORE 9", v.at(1, 1), 90);
            for (int k = 1; k <= 6; k++) {
                v.open(33 + k, 0);
                due("openings, though none comes", v.at(0, 1), k);
            }
        });
    }

    // ---- terms: baking

    private static void baking() {
        edge(0, "MINUTES 0 to TIME less 1, all CAKES being 0 BROWN at first, THE TIN as it LIES.", () -> {
            HotCorner x = by("browns 1;cools 0;minds 1;");
            x.cake(0, 0, 0);
            x.cake(0, 0, 15);
            due("0 at first", x.at(0, 0) + x.at(1, 0), 0);
            for (int time = 1; time <= 40; time++) {
                x.set(1, 0, time);
                due("a minute each", x.at(1, time), time);
                due("the least one", x.end(1), 0);
                due("and no more", x.off(0, 0), time);
            }
        });
        edge(0, "In each, first: an OPENING of THE PLAN at this MINUTE TURNS THE TIN, and is the last one then.", () -> {
            HotCorner x = by("browns heat+since;cools 0;minds 1;");
            x.set(0, 0, 0);
            x.set(0, 3, 50);
            x.cake(0, 0, 0);
            x.open(0, 1);
            due("turned ahead of its own minute", x.at(0, 1), 50);
            due("since 1", x.at(0, 2), 101);
            x.open(1, 3);
            due("the next one is the last", x.at(0, 2), 50);
            due("since 1", x.at(0, 3), 51);
            x.open(19, 1);
            due("in the last minute", x.at(0, 20) - x.at(0, 19), 50);
            x.open(20, 1);
            due("behind the last minute it does not come", x.at(0, 20) - x.at(0, 19), 50);
            x.set(1, 0, 21);
            due("then it does", x.at(0, 21) - x.at(0, 20), x.hot(15));
        });
        edge(0, "If there was an OPENING (in this MINUTE, too), cools is asked (heat so; minute; since: MINUTES from the last one's to this one), and heat is so much less (0 at least).", () -> {
            HotCorner x = by("browns heat;cools 7;minds 1;");
            x.cake(0, 0, 0);
            x.open(3, 0);
            due("not ahead of it", x.at(0, 3), 30);
            due("in this minute, too", x.at(0, 4), 33);
            due("and behind it", x.at(0, 5), 36);
            x.set(0, 0, 7);
            due("0", x.at(0, 4), 21);
            x.set(0, 0, 8);
            due("1", x.at(0, 4), 25);
            x.set(0, 0, 6);
            due("0 at least", x.at(0, 4), 18);
            x.set(0, 0, 0);
            due("0 at least", x.at(0, 20), 0);
            x.force(read(x, "browns heat+1;cools 99;minds 1;"));
            x.set(0, 0, 98);
            due("98 less 99 is 0, and 1 more", x.at(0, 4) - x.at(0, 3), 1);
            x.set(0, 0, 99);
            due("99 less 99 is 0, and 1 more", x.at(0, 4) - x.at(0, 3), 1);
            HotCorner y = by("browns heat;cools since+1;minds 1;");
            y.cake(0, 0, 0);
            y.open(0, 0);
            y.open(4, 0);
            int[] due = {0, 9, 17, 24, 30, 39, 47};
            for (int minutes = 0; minutes < 7; minutes++) {
                due("since from the last one, " + minutes, y.at(0, minutes), due[minutes]);
            }
            HotCorner z = by("browns heat;cools heat-minute;minds 1;");
            z.cake(0, 0, 0);
            z.open(0, 0);
            due("heat so, and the minute", z.at(0, 5), 0 + 1 + 2 + 3 + 4);
            due("heat so, and the minute", z.at(0, 20), 45 + 10 * 10);
        });
        edge(0, "Then, if it has BEGUN (this MINUTE is the one told, or later), browns is asked (heat so; minute; since likewise; no OPENING by then: this MINUTE), and it is as much browner as its KIND says", () -> {
            HotCorner x = by("browns 9;cools 0;minds 1;");
            x.cake(19, 0, 0);
            x.cake(39, 0, 1);
            x.cake(0, 0, 2);
            due("ahead of the one told", x.at(0, 3), 0);
            due("in the one told", x.at(0, 4), 6);
            due("later", x.at(0, 5), 12);
            due("ahead of the one told", x.at(1, 8), 0);
            due("in the one told", x.at(1, 9), 6);
            due("at once", x.at(2, 1), 9);
            HotCorner y = by("browns since;cools 0;minds 1;");
            y.cake(0, 0, 0);
            y.set(1, 0, 40);
            due("no opening: the minute", y.at(0, 40), 39 * 40 / 2);
            y.open(2, 0);
            due("till the first one the minute", y.at(0, 2), 1);
            due("then from it on", y.at(0, 5), 1 + 0 + 1 + 2);
            y.open(39, 0);
            due("0 in the last", y.at(0, 40), y.at(0, 39));
            HotCorner z = by("browns minute+heat;cools 4;minds 1;");
            z.cake(0, 0, 0);
            z.open(0, 0);
            due("heat so, cooled", z.at(0, 3), 6 + 7 + 8);
        });
        edge(0, "(0 at least; 999 at most, BROWN).", () -> {
            HotCorner x = by("browns 98-minute*50;cools 0;minds 1;");
            x.cake(0, 0, 0);
            x.cake(10, 0, 1);
            due("0 at least", x.at(0, 20), 98 + 48);
            due("0 at least", x.at(1, 20), 65 + 32);
            HotCorner y = by("browns 98+(minute=10);cools 0;minds 1;");
            y.cake(0, 0, 0);
            due("980", y.at(0, 10), 980);
            due("999 of 1079", y.at(0, 11), 999);
            due("and no more", y.at(0, 20), 999);
            HotCorner z = by("browns 99*(minute<10)+9*(minute=10);cools 0;minds 1;");
            z.cake(0, 999, 0);
            due("990", z.at(0, 10), 990);
            due("990 and 9", z.at(0, 11), 999);
            HotCorner w = by("browns 99*(minute<10)+8*(minute=10)+2*(minute=11);cools 0;minds 1;");
            w.cake(0, 0, 0);
            due("990 and 8", w.at(0, 11), 998);
            due("998 and 2", w.at(0, 12), 999);
            HotCorner v = by("browns 99;cools 0;minds 1;");
            v.cake(49, 0, 0);
            due("103 and three times that, twice", v.at(0, 4), 103 + 103 + 309 + 309);
            due("999 of more", v.at(0, 5), 999);
        });
    }

    private static void endsAndLots() {
        edge(0, "BADNESS of a CAKE being so BROWN: OFF times minds. At the end, of all together: BADNESS; APART: the most BROWN less the least.", () -> {
            HotCorner x = by("browns 99;cools 0;minds 99;");
            due("of none", x.end(0), 0);
            due("none apart", x.end(1), 0);
            for (int c = 0; c < 8; c++) {
                x.cake(49, 0, c);
            }
            due("the worst one", x.off(0, 1), 2 * 999 * 99);
            due("of all", x.end(0), 8 * 2 * 999 * 99);
            due("apart", x.end(1), 0);
            HotCorner y = by("browns heat;cools 0;minds 0;");
            y.cake(0, 999, 0);
            due("one apart", y.end(1), 0);
            due("minds 0", y.end(0), 0);
            y.cake(0, 0, 1);
            y.set(1, 0, 40);
            y.set(0, 0, 0);
            y.set(0, 1, 99);
            due("most apart", y.end(1), 999);
        });
        edge(0, "DRAWN by a SEED (0 .. 99999): each SPOT, by numbers, would be a LOT modulo 30 HOT. LOTS: the first is (SEED and 1) times 48271 modulo 2147483647, each further one the last times 48271 modulo 2147483647.", () -> {
            HotCorner x = by("browns heat;cools 0;minds 1;");
            x.set(1, 0, 1);
            x.cake(0, 0, 0);
            for (int seed : new int[] {0, 1, 44487, 44488, 99998, 99999}) {
                java.math.BigInteger lot = java.math.BigInteger.valueOf(seed + 1);
                for (int spot = 0; spot < 16; spot++) {
                    lot = lot.multiply(java.math.BigInteger.valueOf(48271)).mod(java.math.BigInteger.valueOf(2147483647));
                    x.move(0, spot);
                    due("spot " + spot + " by " + seed, x.drawn(seed, 0), lot.mod(java.math.BigInteger.valueOf(30)).intValue());
                }
            }
            due("below", x.drawn(-1, 0), -2);
            due("above", x.drawn(100000, 0), -2);
        });
        edge(0, "AN IMAGE keeps how HOT all SPOTS are, PLACES of CAKES, how many CAKES there are, THE PLAN, TIME, how THE TIN LIES, THE LAW.", () -> {
            HotCorner x = rich();
            x.image();
            HotCorner y = rich();
            y.image();
            allHot(x, 99);
            x.move(0, 0);
            x.move(1, 4);
            x.move(2, 6);
            x.shut();
            for (int k = 0; k < 6; k++) {
                x.open(20 + k, 2);
            }
            fullOfCakes(x);
            x.set(1, 0, 40);
            x.set(2, 0, 0);
            x.force(0);
            due("back()", x.back(), 3);
            alike("back()", x, y);
        });
        edge(0, "SHEETS 0 .. 3 are rows of numbers, or missing (as all are at first): of sort 0 bytes, 1 shorts, 2 ints, 40 at most.", () -> {
            HotCorner x = new HotCorner();
            for (int s = 0; s < 4; s++) {
                due("missing", x.judge(s), -11);
                due("40 of them", x.sheet(s, s % 3, 40), 1);
                due("the last one", x.cell(s, 39, 1), 1);
                due("one more", x.cell(s, 40, 1), -12);
                due("41 of them", x.sheet(s, s % 3, 41), -2);
            }
            due("no such one", x.cell(-1, 0, 0), -2);
            due("no such one", x.cell(4, 0, 0), -2);
            HotCorner y = by("browns 99;cools 0;minds 1;");
            y.cake(0, 0, 0);
            for (int minutes = 0; minutes <= 11; minutes++) {
                y.set(1, 0, Math.max(1, minutes));
                int brown = y.at(0, y.count(1));
                for (int sort = 0; sort < 3; sort++) {
                    row(y, sort, sort, brown);
                    due("sort " + sort + " holds " + brown, y.judge(sort), sort == 0 && brown > 127 ? 0 : -1);
                }
            }
        });
    }

    // ---- terms: refusals

    private static void refusals() {
        edge(0, "REFUSALS, of several the first one told: NONE there is no such thing; BAD a number is not as told; STATE as told; FULL.", () -> {
            due("NONE", HotCorner.NONE, -1);
            due("BAD", HotCorner.BAD, -2);
            due("STATE", HotCorner.STATE, -3);
            due("FULL", HotCorner.FULL, -4);
            due("NO", HotCorner.NO, -4611686018427387904L);
            HotCorner x = rich();
            fullOfCakes(x);
            due("NONE", x.few(0), -1);
            due("BAD, STATE, FULL", x.cake(60, 0, 5), -2);
            due("STATE, FULL", x.cake(0, 0, x.told(7, 3)), -3);
            due("FULL", x.cake(0, 0, 15), -4);
        });
        edge(0, "The host's: -11 nothing there, -12 a place outside, -13 of another sort or KIND, -14 a size below 0. They change nothing, but where it is told.", () -> {
            refused("nothing there", x -> x.cell(3, 0, 1), -11);
            refused("a place outside", x -> x.cell(0, 6, 1), -12);
            refused("of another sort", x -> x.copy(0, 0, 1, 0, 1), -13);
            refused("of another kind", x -> x.taken(4, 2), -13);
            refused("a size below 0", x -> x.sheet(0, 0, -1), -14);
        });
        edge(0, "What is asked changes nothing, but where it is told.", () -> {
            Call[] asked = {
                x -> x.count(0), x -> x.hot(0), x -> x.spot(3, 3), x -> x.asks(0, 5, 5, 5), x -> x.asks(1, 5, 5, 105),
                x -> x.asks(2, 5, 5, 5), x -> x.told(2, 4), x -> x.opening(1, 1), x -> x.at(0, 8), x -> x.at(1, 3),
                x -> x.end(0), x -> x.end(1), x -> x.end(2), x -> x.end(3), x -> x.end(4), x -> x.off(0, 0), x -> x.off(1, 1),
                x -> x.when(0, 0), x -> x.when(0, 1), x -> x.when(1, 0), x -> x.when(1, 1), x -> x.twice(0), x -> x.twice(1),
                x -> x.until(0), x -> x.until(1), x -> x.out(0, 0), x -> x.out(1, 1), x -> x.singly(), x -> x.soon(0, 50),
                x -> x.soon(0, 999), x -> x.few(0), x -> x.few(999), x -> x.fan(), x -> x.cost(), x -> x.lay(0, 0), x -> x.lay(2, 1),
                x -> x.swap(0), x -> x.swap(1), x -> x.which(0), x -> x.which(1), x -> x.judge(1), x -> x.how(1), x -> x.kinds(1, 0, 0),
                x -> x.kinds(1, 2, 1), x -> x.heats(1, 4, 0), x -> x.heats(1, 15, 1), x -> x.heats(1, 0, 2), x -> x.turned(1),
                x -> x.laws(1), x -> x.drawn(9, 0), x -> x.drawn(99999, 1), x -> x.odds(5, 20, 50, 0), x -> x.odds(5, 3, 50, 1),
                x -> x.taken(4, 1), x -> x.taken(31, 6), x -> x.copy(0, 6, 0, 6, 0), x -> x.cakesBy(0, 2, 0, 0)
            };
            List<String> due = seen(rich());
            for (int k = 0; k < asked.length; k++) {
                HotCorner x = rich();
                asked[k].of(x);
                if (!seen(x).equals(due)) {
                    wrong("question " + k + " changed something");
                }
            }
        });
    }

    // ---- promises: the oven, the law

    private static void ovenAndLaw() {
        edge(1, "An empty TIN.", () -> {
            HotCorner x = new HotCorner();
            int[] due = {0, 20, 0, 0, 1, 0, 0};
            for (int what = 0; what < 7; what++) {
                due("count(" + what + ")", x.count(what), due[what]);
            }
            for (int place = 0; place < 16; place++) {
                due("nothing on " + place, x.taken(place, 0), -11);
                due("spot " + place, x.taken(16 + place, 6), 10);
            }
            due("no image", x.back(), -3);
            due("told(0, 0)", x.told(0, 0), -5);
            due("opening(0, 0)", x.opening(0, 0), -5);
            due("end(0)", x.end(0), 0);
            due("end(2)", x.end(2), -1);
            due("singly()", x.singly(), 0);
            due("swap(0)", x.swap(0), -1);
            due("when(0, 0)", x.when(0, 0), 0);
            due("until(0)", x.until(0), 1);
            due("which(0)", x.which(0), 0);
            due("few(0)", x.few(0), 0);
            due("fan()", x.fan(), 0);
            due("cost()", x.cost(), 0);
            due("odds(0, 20, 0, 0)", x.odds(0, 20, 0, 0), 1);
            due("text()", x.text(), -100);
        });
        edge(2, "0 CAKES, 1 TIME, 2 how THE TIN LIES, 3 OPENINGS, 4 TEXTS, 5 THE LAW, 6 bytes of THE TAPE.", () -> {
            HotCorner x = new HotCorner();
            fullOfTexts(x);
            fullOfCakes(x);
            x.set(1, 0, 40);
            x.set(2, 0, 3);
            for (int k = 0; k < 6; k++) {
                x.open(k, 0);
            }
            x.force(5);
            feed(x, blanks(160));
            int[] most = {8, 40, 3, 6, 6, 5, 160};
            for (int what = 0; what < 7; what++) {
                due("at most, count(" + what + ")", x.count(what), most[what]);
            }
        });
        edge(2, "BAD.", () -> {
            for (int what : new int[] {-1, 7, 8, LOWEST, HIGHEST}) {
                refused("count(" + what + ")", x -> x.count(what), -2);
            }
        });
        edge(3, "How HOT a SPOT is (what 0), TIME (1), how THE TIN LIES (2; of does not matter, but of 0) becomes v: what it was.", () -> {
            HotCorner x = new HotCorner();
            due("set(0, 0, 0)", x.set(0, 0, 0), 10);
            due("set(0, 0, 99)", x.set(0, 0, 99), 0);
            due("set(0, 0, 99)", x.set(0, 0, 99), 99);
            due("set(0, 15, 99)", x.set(0, 15, 99), 10);
            due("no other spot", x.hot(1) + x.hot(14), 20);
            for (int of : new int[] {LOWEST, -1, 0, 15, 16, HIGHEST}) {
                due("TIME 1", x.set(1, of, 1), 20);
                due("TIME 40", x.set(1, of, 40), 1);
                due("TIME 20", x.set(1, of, 20), 40);
                due("LIES 3", x.set(2, of, 3), 0);
                due("LIES 0", x.set(2, of, 0), 3);
            }
        });
        edge(3, "-5: what;", () -> {
            for (int what : new int[] {-1, 3, LOWEST, HIGHEST}) {
                refused("set(" + what + ", 0, 1)", x -> x.set(what, 0, 1), -5);
                refused("set(" + what + ", 16, -1)", x -> x.set(what, 16, -1), -5);
            }
        });
        edge(3, "-6: no such SPOT;", () -> {
            for (int of : new int[] {-1, 16, LOWEST, HIGHEST}) {
                refused("set(0, " + of + ", 50)", x -> x.set(0, of, 50), -6);
                refused("set(0, " + of + ", 100)", x -> x.set(0, of, 100), -6);
            }
        });
        edge(3, "-7: v.", () -> {
            int[][] bad = {{0, -1}, {0, 100}, {1, 0}, {1, 41}, {1, -1}, {2, -1}, {2, 4}, {0, LOWEST}, {0, HIGHEST}, {1, LOWEST},
                {1, HIGHEST}, {2, LOWEST}, {2, HIGHEST}, {2, 256}};
            for (int[] one : bad) {
                refused("set(" + one[0] + ", 15, " + one[1] + ")", x -> x.set(one[0], 15, one[1]), -7);
            }
            refused("set(1, -1, 41)", x -> x.set(1, -1, 41), -7);
            refused("set(2, 16, 4)", x -> x.set(2, 16, 4), -7);
        });
        edge(4, "BAD.", () -> {
            due("hot(0)", rich().hot(0), 10);
            due("hot(15)", rich().hot(15), 10);
            for (int spot : new int[] {-1, 16, LOWEST, HIGHEST}) {
                refused("hot(" + spot + ")", x -> x.hot(spot), -2);
            }
        });
        edge(5, "TURNED by so many quarters (0 .. 3).", () -> {
            HotCorner x = new HotCorner();
            int[][] due = {{0, 3, 15, 12}, {3, 15, 12, 0}, {15, 12, 0, 3}, {12, 0, 3, 15}, {5, 6, 10, 9}, {1, 7, 14, 8}};
            for (int[] one : due) {
                for (int quarters = 0; quarters < 4; quarters++) {
                    due("spot(" + one[0] + ", " + quarters + ")", x.spot(one[0], quarters), one[quarters]);
                }
            }
        });
        edge(5, "BAD.", () -> {
            for (int v : new int[] {-1, LOWEST, HIGHEST, 16}) {
                refused("spot(" + v + ", 0)", x -> x.spot(v, 0), -2);
                refused("spot(0, " + v + ")", x -> x.spot(0, v), -2);
            }
            refused("spot(0, 4)", x -> x.spot(0, 4), -2);
            refused("spot(15, 5)", x -> x.spot(15, 5), -2);
        });
    }

    private static void feedAndText() {
        edge(6, "The first n (1 .. 5) of five bytes (0 .. 255 each) come behind THE TAPE's, one by one: how many it has.", () -> {
            HotCorner x = new HotCorner();
            due("1", x.feed(1, 'b', 255, 255, 0, 255), 1);
            due("5", x.feed(5, 'r', 'o', 'w', 'n', 's'), 6);
            due("2", x.feed(2, '1', ';', '1', '1', '1'), 8);
            due("3", x.feed(3, ' ', 'c', 'o', '1', '1'), 11);
            due("4", x.feed(4, 'o', 'l', 's', '0', '1'), 15);
            due("only these, in order", x.text(), -115);
            HotCorner y = new HotCorner();
            feed(y, "browns 1;");
            due("255", y.feed(2, 10, 255, 0, 0, 0), 11);
            due("the fault is of the second", y.text(), -110);
        });
        edge(6, "BAD: n, any of the five;", () -> {
            for (int n : new int[] {0, 6, -1, LOWEST, HIGHEST}) {
                refused("feed(" + n + ", ..)", x -> x.feed(n, 32, 32, 32, 32, 32), -2);
            }
            for (int v : new int[] {-1, 256, LOWEST, HIGHEST}) {
                refused("first " + v, x -> x.feed(5, v, 32, 32, 32, 32), -2);
                refused("second " + v, x -> x.feed(5, 32, v, 32, 32, 32), -2);
                refused("third " + v, x -> x.feed(5, 32, 32, v, 32, 32), -2);
                refused("fourth " + v, x -> x.feed(5, 32, 32, 32, v, 32), -2);
                refused("fifth " + v, x -> x.feed(5, 32, 32, 32, 32, v), -2);
                refused("behind the first n " + v, x -> x.feed(1, 32, 32, 32, 32, v), -2);
            }
        });
        edge(6, "FULL: they have not all room (none comes).", () -> {
            for (int n = 1; n <= 5; n++) {
                int many = n;
                refused(x -> feed(x, blanks(161 - many - x.count(6))), n + " into " + (n - 1), x -> x.feed(many, '?', '?', '?', '?', '?'), -4);
                HotCorner x = new HotCorner();
                feed(x, blanks(160 - n));
                due(n + " into " + n, x.feed(n, 32, 32, 32, 32, 32), 160);
                due("no more", x.feed(1, 32, 32, 32, 32, 32), -4);
                due("BAD ahead of FULL", x.feed(1, 32, 32, 32, 32, 256), -2);
                due("BAD ahead of FULL", x.feed(6, 32, 32, 32, 32, 32), -2);
                due("160 still", x.count(6), 160);
            }
        });
        edge(7, "THE TAPE, which is empty then (by a FAULT, too), is a TEXT: its number; -100 less the place of its FAULT.", () -> {
            HotCorner x = new HotCorner();
            due("empty", x.text(), -100);
            feed(x, "browns 1;cools 2;minds 3;");
            due("a text", x.text(), 1);
            due("empty then", x.count(6), 0);
            due("empty then", x.text(), -100);
            feed(x, "browns ?");
            due("a fault", x.text(), -107);
            due("empty then", x.count(6), 0);
            due("none came", x.count(4), 2);
            due("the law is as it was", x.count(5), 0);
            due("the next one is 2", read(x, "browns 1;cools 2;minds 3;"), 2);
            feed(x, blanks(160));
            due("the last place", x.text(), -260);
            feed(x, blanks(160));
            due("there is room anew", x.count(6), 160);
            HotCorner w = new HotCorner();
            for (int i = 0; i < 7; i++) {
                due("faults again and again", read(w, "browns 1" + "+1".repeat(74) + "?"), -256);
            }
            due("a good one behind them", read(w, "browns 1+2*3;cools 7-1-1;minds not 0;"), 1);
            w.cake(0, 0, 0);
            w.force(1);
            due("its browns", w.asks(0, 0, 0, 0), 7);
            due("its cools", w.asks(1, 0, 0, 0), 5);
            due("its minds", w.asks(2, 0, 0, 0), 1);
            HotCorner y = rich();
            feed(y, "?");
            due("a fault", y.text(), -125);
            alike("a fault", y, ofEmptyTape());
        });
        edge(7, "FULL (ahead of the FAULT; then THE TAPE stays).", () -> {
            refused(EdgeTest::fullOfTexts, "text() of an empty tape", x -> x.text(), -4);
            HotCorner x = new HotCorner();
            fullOfTexts(x);
            due("texts", x.count(4), 6);
            feed(x, "browns ?");
            due("ahead of the fault", x.text(), -4);
            due("the tape stays", x.count(6), 8);
            due("more comes behind it", x.feed(1, 32, 0, 0, 0, 0), 9);
            due("still full", x.text(), -4);
            due("still six", x.count(4), 6);
        });
    }

    private static void forceAndAsks() {
        edge(8, "A TEXT is THE LAW: which was. BAD.", () -> {
            HotCorner x = new HotCorner();
            due("its own", x.force(0), 0);
            due("none such", x.force(1), -2);
            fullOfTexts(x);
            due("the last", x.force(5), 0);
            due("its own", x.force(5), 5);
            due("the first", x.force(0), 5);
            due("none such", x.force(6), -2);
            for (int t : new int[] {-1, 2, 6, LOWEST, HIGHEST}) {
                refused("force(" + t + ")", y -> y.force(t), -2);
            }
        });
        edge(9, "What part 0 browns, 1 cools, 2 minds says (heatMinute: 100 times heat, 0 .. 99, and minute, 0 .. 39; brown 0 .. 999; cSince: 100 times the CAKE, and since, 0 .. 99).", () -> {
            HotCorner x = by("browns heat;cools minute;minds since;");
            x.cake(0, 0, 0);
            due("heat 0", x.asks(0, 39, 999, 99), 0);
            due("heat 99", x.asks(0, 9900, 0, 0), 99);
            due("minute 0", x.asks(1, 9900, 999, 99), 0);
            due("minute 39", x.asks(1, 9939, 0, 0), 39);
            due("since 0", x.asks(2, 9939, 999, 0), 0);
            due("since 99", x.asks(2, 0, 0, 99), 99);
            HotCorner y = by("browns brown-900;cools more;minds brown;");
            fullOfCakes(y);
            due("brown 999", y.asks(0, 0, 999, 0), 99);
            due("brown 0", y.asks(2, 0, 0, 0), 0);
            due("the last cake", y.asks(0, 0, 901, 799), 1);
            HotCorner z = by("browns more;cools more;minds more;");
            z.cake(3, 0, 0);
            z.cake(9, 0, 1);
            due("cake 0", z.asks(1, 0, 0, 99), 3);
            due("cake 1", z.asks(1, 0, 0, 100), 9);
            HotCorner w = by("browns since;cools since;minds since;");
            fullOfCakes(w);
            for (int c = 0; c < 8; c++) {
                due("since 0 of " + c, w.asks(0, 0, 0, 100 * c), 0);
                due("since 99 of " + c, w.asks(2, 0, 0, 100 * c + 99), 99);
            }
        });
        edge(9, "BAD.", () -> {
            for (int v : new int[] {-1, 3, LOWEST, HIGHEST}) {
                refused("part " + v, x -> x.asks(v, 0, 0, 0), -2);
            }
            for (int v : new int[] {-1, -100, 40, 99, 140, 9940, 9999, 10000, LOWEST, HIGHEST, LOWEST + 48}) {
                refused("heatMinute " + v, x -> x.asks(0, v, 0, 0), -2);
            }
            for (int v : new int[] {-1, 1000, LOWEST, HIGHEST}) {
                refused("brown " + v, x -> x.asks(0, 0, v, 0), -2);
            }
            for (int v : new int[] {-1, -100, 300, 399, 800, LOWEST, HIGHEST}) {
                refused("cSince " + v, x -> x.asks(0, 0, 0, v), -2);
            }
            due("no cakes", new HotCorner().asks(0, 0, 0, 0), -2);
        });
    }

    // ---- promises: cakes, the plan

    private static void cakesAndPlaces() {
        edge(10, "A CAKE (kindMore: 10 times KIND, and MORE; WISH; PLACE): its number.", () -> {
            HotCorner x = new HotCorner();
            due("least", x.cake(0, 0, 0), 0);
            due("most", x.cake(59, 999, 15), 1);
            int[] least = {0, 0, 0, 0};
            int[] most = {5, 9, 999, 15};
            for (int what = 0; what < 4; what++) {
                due("told(0, " + what + ")", x.told(0, what), least[what]);
                due("told(1, " + what + ")", x.told(1, what), most[what]);
            }
            due("MORE 9", x.cake(9, 0, 1), 2);
            due("MORE 0", x.cake(10, 0, 2), 3);
            due("of a CAKE", x.told(2, 0), 0);
            due("of a THICK", x.told(3, 0), 1);
        });
        edge(10, "BAD;", () -> {
            for (int v : new int[] {-1, 60, LOWEST, HIGHEST}) {
                refused("kindMore " + v, x -> x.cake(v, 0, 0), -2);
            }
            for (int v : new int[] {-1, 1000, LOWEST, HIGHEST}) {
                refused("wish " + v, x -> x.cake(0, v, 0), -2);
            }
            for (int v : new int[] {-1, 16, LOWEST, HIGHEST}) {
                refused("place " + v, x -> x.cake(0, 0, v), -2);
            }
            refused("ahead of STATE", x -> x.cake(60, 0, 4), -2);
            refused(EdgeTest::fullOfCakes, "ahead of FULL", x -> x.cake(0, 1000, 15), -2);
        });
        edge(10, "STATE: another one is on that PLACE;", () -> {
            refused("of cake 0", x -> x.cake(0, 0, 4), -3);
            refused("of the last one", x -> x.cake(0, 0, 10), -3);
            refused(EdgeTest::fullOfCakes, "ahead of FULL", x -> x.cake(0, 0, 4), -3);
            HotCorner x = rich();
            due("where cake 0 was", x.cake(0, 0, 5), 3);
            x.back();
            due("where one was that is none", x.cake(0, 0, 10), 2);
        });
        edge(10, "FULL.", () -> {
            refused(EdgeTest::fullOfCakes, "a ninth", x -> x.cake(0, 0, 15), -4);
            HotCorner x = new HotCorner();
            for (int c = 0; c < 8; c++) {
                due("cake", x.cake(0, 0, 15 - c), c);
            }
            due("a ninth", x.cake(0, 0, 0), -4);
        });
        edge(11, "A CAKE comes to a PLACE (its own, too): where it was.", () -> {
            HotCorner x = rich();
            due("its own", x.move(0, 4), 4);
            due("the first", x.move(0, 0), 4);
            due("the last", x.move(0, 15), 0);
            due("the one it was on is free", x.move(1, 0), 6);
            due("it is there", x.told(0, 3), 15);
        });
        edge(11, "-5: no such CAKE;", () -> {
            for (int c : new int[] {-1, 3, 8, LOWEST, HIGHEST}) {
                refused("move(" + c + ", 0)", x -> x.move(c, 0), -5);
                refused("move(" + c + ", 16)", x -> x.move(c, 16), -5);
                refused("move(" + c + ", 4)", x -> x.move(c, 4), -5);
            }
        });
        edge(11, "-7: PLACE;", () -> {
            for (int place : new int[] {-1, 16, LOWEST, HIGHEST}) {
                refused("move(2, " + place + ")", x -> x.move(2, place), -7);
            }
        });
        edge(11, "STATE: another one is there.", () -> {
            refused("move(0, 6)", x -> x.move(0, 6), -3);
            refused("move(0, 10)", x -> x.move(0, 10), -3);
            refused("move(2, 4)", x -> x.move(2, 4), -3);
        });
        edge(12, "Of a CAKE what 0 KIND, 1 MORE, 2 WISH, 3 PLACE, 4 in which MINUTE it BEGINS.", () -> {
            HotCorner x = rich();
            int[][] due = {{1, 2, 100, 4, 0}, {4, 3, 50, 6, 0}, {5, 1, 80, 10, 0}, {3, 9, 999, 15, 8}, {3, 0, 0, 0, 2}, {1, 9, 1, 1, 3}};
            x.cake(39, 999, 15);
            x.cake(30, 0, 0);
            x.cake(19, 1, 1);
            for (int c = 0; c < due.length; c++) {
                for (int what = 0; what < 5; what++) {
                    due("told(" + c + ", " + what + ")", x.told(c, what), due[c][what]);
                }
            }
        });
        edge(12, "-5: no such CAKE;", () -> {
            due("of none", new HotCorner().told(0, 0), -5);
            for (int c : new int[] {-1, 3, 8, LOWEST, HIGHEST}) {
                refused("told(" + c + ", 0)", x -> x.told(c, 0), -5);
                refused("told(" + c + ", 5)", x -> x.told(c, 5), -5);
            }
        });
        edge(12, "-7: what.", () -> {
            for (int what : new int[] {-1, 5, LOWEST, HIGHEST}) {
                refused("told(2, " + what + ")", x -> x.told(2, what), -7);
            }
        });
    }

    private static void fullOfOpenings(HotCorner x) {
        x.shut();
        for (int k = 0; k < 6; k++) {
            x.open(2 * k, k & 3);
        }
    }

    private static void openings() {
        edge(13, "An OPENING behind all others: how many there are.", () -> {
            HotCorner x = new HotCorner();
            due("the first minute", x.open(0, 0), 1);
            due("the next one", x.open(1, 3), 2);
            due("the last one", x.open(39, 1), 3);
            due("behind them", x.opening(2, 0), 39);
            x.shut();
            due("the last one alone", x.open(39, 0), 1);
        });
        edge(13, "BAD;", () -> {
            for (int v : new int[] {-1, 40, LOWEST, HIGHEST}) {
                refused("minute " + v, x -> x.open(v, 0), -2);
                refused("quarters " + v, x -> x.open(7, v), -2);
            }
            refused("quarters 4", x -> x.open(7, 4), -2);
            refused("ahead of STATE", x -> x.open(0, 4), -2);
            refused(EdgeTest::fullOfOpenings, "ahead of FULL", x -> x.open(40, 0), -2);
            refused(EdgeTest::fullOfOpenings, "ahead of FULL", x -> x.open(39, -1), -2);
        });
        edge(13, "STATE: its MINUTE isn't above that of the one ahead;", () -> {
            refused("the same", x -> x.open(5, 0), -3);
            refused("1 below", x -> x.open(4, 0), -3);
            refused("between", x -> x.open(3, 0), -3);
            refused("far below", x -> x.open(0, 0), -3);
            refused(EdgeTest::fullOfOpenings, "ahead of FULL", x -> x.open(10, 0), -3);
            due("1 above", rich().open(6, 0), 3);
            refused(x -> { x.shut(); x.open(5, 0); }, "the same as the only one", x -> x.open(5, 0), -3);
            refused(x -> { x.shut(); x.open(5, 0); }, "1 below the only one", x -> x.open(4, 0), -3);
            refused(x -> { x.shut(); x.open(39, 0); }, "the last minute again", x -> x.open(39, 0), -3);
        });
        edge(13, "FULL.", () -> {
            refused(EdgeTest::fullOfOpenings, "a seventh", x -> x.open(11, 0), -4);
            refused(EdgeTest::fullOfOpenings, "a seventh", x -> x.open(39, 3), -4);
        });
        edge(14, "Of an OPENING (numbered from 0 on) what 0 its MINUTE, 1 QUARTERS.", () -> {
            HotCorner x = new HotCorner();
            fullOfOpenings(x);
            for (int k = 0; k < 6; k++) {
                due("minute", x.opening(k, 0), 2 * k);
                due("quarters", x.opening(k, 1), k & 3);
            }
        });
        edge(14, "-5: no such OPENING;", () -> {
            due("of none", new HotCorner().opening(0, 0), -5);
            for (int k : new int[] {-1, 2, 6, LOWEST, HIGHEST}) {
                refused("opening(" + k + ", 0)", x -> x.opening(k, 0), -5);
                refused("opening(" + k + ", 2)", x -> x.opening(k, 2), -5);
            }
            refused(EdgeTest::fullOfOpenings, "opening(6, 0)", x -> x.opening(6, 0), -5);
            refused(x -> x.shut(), "of what was shut", x -> x.opening(0, 0), -5);
        });
        edge(14, "-7: what.", () -> {
            for (int what : new int[] {-1, 2, LOWEST, HIGHEST}) {
                refused("opening(1, " + what + ")", x -> x.opening(1, what), -7);
            }
        });
        edge(15, "THE PLAN has no OPENINGS any more: how many it had.", () -> {
            HotCorner x = rich();
            due("two", x.shut(), 2);
            due("none", x.shut(), 0);
            due("none", x.count(3), 0);
            due("minute 0 anew", x.open(0, 1), 1);
            fullOfOpenings(x);
            due("six", x.shut(), 6);
            due("there is room anew", x.open(39, 0), 1);
        });
    }

    // ---- promises: baking

    private static void bakingAsked() {
        edge(16, "How BROWN a CAKE is behind so many MINUTES (0 .. TIME).", () -> {
            HotCorner x = by("browns minute+1;cools 0;minds 1;");
            x.cake(0, 0, 0);
            due("0", x.at(0, 0), 0);
            due("1", x.at(0, 1), 1);
            due("19", x.at(0, 19), 190);
            due("TIME", x.at(0, 20), 210);
            x.set(1, 0, 1);
            due("TIME 1", x.at(0, 1), 1);
            due("above it", x.at(0, 2), -7);
            x.set(1, 0, 40);
            due("TIME 40", x.at(0, 40), 820);
        });
        edge(16, "-5: no such CAKE;", () -> {
            due("of none", new HotCorner().at(0, 0), -5);
            for (int c : new int[] {-1, 3, 8, LOWEST, HIGHEST}) {
                refused("at(" + c + ", 0)", x -> x.at(c, 0), -5);
                refused("at(" + c + ", 99)", x -> x.at(c, 99), -5);
            }
        });
        edge(16, "-7: MINUTES.", () -> {
            for (int minutes : new int[] {-1, 9, 40, LOWEST, HIGHEST}) {
                refused("at(2, " + minutes + ")", x -> x.at(2, minutes), -7);
            }
        });
        edge(17, "At the end of all: what 0 BADNESS, 1 APART (no CAKES: 0), 2 the brownest, 3 the palest CAKE, of like ones the first (-1: there are none), 4 how many are OFF 0.", () -> {
            HotCorner x = by("browns heat;cools 0;minds 0;");
            int[] none = {0, 0, -1, -1, 0};
            for (int what = 0; what < 5; what++) {
                due("none, end(" + what + ")", x.end(what), none[what]);
            }
            int[] hot = {5, 9, 3, 9, 3, 5, 9, 3};
            for (int c = 0; c < 8; c++) {
                x.set(0, c, hot[c]);
            }
            int[][] due = {
                {0, 0, 0, 0, 1}, {0, 80, 1, 0, 1}, {0, 120, 1, 2, 2}, {0, 120, 1, 2, 2}, {0, 120, 1, 2, 3},
                {0, 120, 1, 2, 3}, {0, 120, 1, 2, 3}, {0, 120, 1, 2, 4}
            };
            int[] wish = {100, 0, 60, 179, 60, 101, 181, 60};
            for (int c = 0; c < 8; c++) {
                x.cake(0, wish[c], c);
                for (int what = 0; what < 5; what++) {
                    due((c + 1) + " cakes, end(" + what + ")", x.end(what), due[c][what]);
                }
            }
        });
        edge(17, "BAD.", () -> {
            for (int what : new int[] {-1, 5, LOWEST, HIGHEST}) {
                refused("end(" + what + ")", x -> x.end(what), -2);
                due("of none", new HotCorner().end(what), -2);
            }
        });
        edge(18, "Of a CAKE at the end what 0 OFF, 1 BADNESS.", () -> {
            HotCorner x = by("browns 10;cools 0;minds 99;");
            x.cake(0, 200, 0);
            x.cake(0, 201, 1);
            x.cake(49, 0, 2);
            x.cake(50, 199, 3);
            due("OFF 0", x.off(0, 0), 0);
            due("BADNESS 0", x.off(0, 1), 0);
            due("OFF 1", x.off(1, 0), 1);
            due("BADNESS 99", x.off(1, 1), 99);
            due("twice OFF", x.off(2, 0), 2 * (8 * 14 + 12 * 42));
            due("twice the BADNESS", x.off(2, 1), 99 * 2 * (8 * 14 + 12 * 42));
            due("not OFF", x.off(3, 0), 0);
        });
        edge(18, "-5: no such CAKE;", () -> {
            due("of none", new HotCorner().off(0, 0), -5);
            for (int c : new int[] {-1, 3, 8, LOWEST, HIGHEST}) {
                refused("off(" + c + ", 0)", x -> x.off(c, 0), -5);
                refused("off(" + c + ", 2)", x -> x.off(c, 2), -5);
            }
        });
        edge(18, "-7: what.", () -> {
            for (int what : new int[] {-1, 2, LOWEST, HIGHEST}) {
                refused("off(2, " + what + ")", x -> x.off(2, what), -7);
            }
        });
    }

    // ---- promises: when to turn, when to take out

    private static void whenToTurn() {
        edge(19, "Did THE PLAN have one OPENING alone: 100 times its MINUTE (0 .. TIME less 1), and QUARTERS by which APART (goal 0), BADNESS (1) at the end would be least, of like ones the first (what 0), that (1).", () -> {
            HotCorner x = by("browns heat;cools 0;minds 1;");
            x.set(1, 0, 1);
            x.cake(0, 0, 0);
            due("all alike: the first", x.when(0, 0), 0);
            due("all alike: the first", x.when(1, 0), 0);
            due("that", x.when(1, 1), 10);
            x.set(0, 12, 0);
            due("minute 0, by 3", x.when(1, 0), 3);
            due("that", x.when(1, 1), 0);
            x.set(0, 3, 0);
            due("of like ones the fewest quarters", x.when(1, 0), 1);
            x.set(1, 0, 40);
            due("the first minute", x.when(1, 0), 1);
            // the later the opening, the less is cooled: the last minute of all is the least bad
            HotCorner y = by("browns heat;cools 9;minds 1;");
            y.set(1, 0, 40);
            y.cake(0, 999, 0);
            due("the last of 40", y.when(1, 0), 3900);
            due("that", y.when(1, 1), 999 - 400 + 9);
            y.set(1, 0, 7);
            due("the last of 7", y.when(1, 0), 600);
            y.set(0, 12, 12);
            due("by 3", y.when(1, 0), 603);
            y.open(0, 0);
            y.open(1, 2);
            due("alone", y.when(1, 0), 603);
            due("that", y.when(1, 1), 999 - 63);
            // two cakes that are 10 and 30 hot, and change them by two quarters
            HotCorner z = by("browns heat;cools 0;minds openings;");
            z.set(0, 15, 30);
            z.set(0, 12, 50);
            z.set(0, 3, 0);
            z.cake(0, 0, 0);
            z.cake(0, 0, 15);
            due("even by halves", z.when(0, 0), 1002);
            due("that", z.when(0, 1), 0);
            due("it counts one opening", z.when(1, 1), 40 * 20);
            z.set(1, 0, 3);
            due("the last minute of 3", z.when(0, 0), 203);
            due("that", z.when(0, 1), 70 - 60);
            z.set(0, 12, 0);
            due("of like ones the first", z.when(0, 0), 1);
            HotCorner none = new HotCorner();
            none.set(1, 0, 1);
            due("of none", none.when(0, 0) + none.when(0, 1) + none.when(1, 0) + none.when(1, 1), 0);
        });
        edge(19, "BAD.", () -> {
            for (int v : new int[] {-1, 2, LOWEST, HIGHEST}) {
                refused("when(" + v + ", 0)", x -> x.when(v, 0), -2);
                refused("when(1, " + v + ")", x -> x.when(1, v), -2);
            }
        });
        edge(20, "Did THE PLAN have two OPENINGS alone, both of 2 QUARTERS: 100 times the MINUTE of the first, and that of the second one (below TIME both) by which APART would be least, of like ones the first (what 0), that (1);", () -> {
            HotCorner x = by("browns heat;cools 0;minds 1;");
            x.cake(0, 0, 0);
            x.set(1, 0, 2);
            due("TIME 2: there is one way", x.twice(0), 1);
            due("one cake", x.twice(1), 0);
            x.set(0, 15, 30);
            x.cake(0, 0, 15);
            due("one minute each", x.twice(1), 0);
            x.set(1, 0, 3);
            due("all alike: the first", x.twice(0), 1);
            due("that", x.twice(1), 20);
            x.set(1, 0, 4);
            due("two minutes turned", x.twice(0), 2);
            due("that", x.twice(1), 0);
            x.open(1, 1);
            due("alone", x.twice(0), 2);
            due("alone", x.twice(1), 0);
            x.force(read(x, "browns heat*openings;cools 0;minds 1;"));
            x.set(1, 0, 3);
            due("they are two", x.twice(1), 2 * 20);
            // 18 apart from the first minute on, and even only by the halves changed in minute 38
            HotCorner y = by("browns 2*more*(minute=0)+heat*(minute=38)*(since=0);cools 0;minds 1;");
            y.set(0, 15, 28);
            y.cake(0, 0, 0);
            y.cake(9, 0, 15);
            y.set(1, 0, 40);
            due("the last two of 40", y.twice(0), 3839);
            due("that", y.twice(1), 0);
            y.set(1, 0, 39);
            due("of 39 no two are better than the first", y.twice(0), 1);
            due("that", y.twice(1), 18);
            y.force(read(y, "browns 2*more*(minute=0)+heat*(minute=38)*(since=38);cools 0;minds 1;"));
            due("the first at 0, the second not by 38", y.twice(1), 18);
            y.set(1, 0, 40);
            due("the first and the last minute", y.twice(0), 39);
            due("that", y.twice(1), 0);
            HotCorner none = new HotCorner();
            none.set(1, 0, 40);
            due("of none", none.twice(0), 1);
            due("of none", none.twice(1), 0);
        });
        edge(20, "-1: TIME is 1.", () -> {
            refused(x -> x.set(1, 0, 1), "twice(0)", x -> x.twice(0), -1);
            refused(x -> x.set(1, 0, 1), "twice(1)", x -> x.twice(1), -1);
            HotCorner x = new HotCorner();
            x.set(1, 0, 1);
            due("of none", x.twice(0), -1);
            x.set(1, 0, 2);
            due("TIME 2", x.twice(0), 1);
        });
        edge(20, "BAD.", () -> {
            for (int v : new int[] {-1, 2, LOWEST, HIGHEST}) {
                refused("twice(" + v + ")", x -> x.twice(v), -2);
            }
        });
    }

    private static void whenToTakeOut() {
        edge(21, "The TIME (1 .. 40) by which, were it so, BADNESS at the end would be least, of like ones the least (what 0), that (1).", () -> {
            HotCorner x = by("browns 10;cools 0;minds 1;");
            due("of none", x.until(0), 1);
            due("of none", x.until(1), 0);
            x.cake(0, 10, 0);
            due("1", x.until(0), 1);
            due("0", x.until(1), 0);
            HotCorner y = by("browns 10;cools 0;minds 1;");
            y.cake(0, 400, 0);
            due("40, though TIME is 20", y.until(0), 40);
            due("0", y.until(1), 0);
            y.set(1, 0, 1);
            due("40, though TIME is 1", y.until(0), 40);
            due("TIME is as it was", y.count(1), 1);
            HotCorner z = by("browns 10;cools 0;minds 1;");
            z.cake(0, 0, 0);
            due("not 0", z.until(0), 1);
            due("not 0", z.until(1), 10);
            z.cake(0, 999, 1);
            due("all alike: the least", z.until(0), 1);
            due("all alike: the least", z.until(1), 999);
            HotCorner w = by("browns 10;cools 0;minds 1;");
            w.cake(0, 25, 0);
            due("5 off by 2 and by 3", w.until(0), 2);
            due("5 off by 2 and by 3", w.until(1), 5);
            HotCorner v = by("browns heat*(since=0)*(19<minute);cools 0;minds 1;");
            v.cake(0, 10, 0);
            v.open(30, 0);
            due("THE PLAN behind TIME comes", v.until(0), 31);
            v.force(read(v, "browns 0;cools 0;minds 0;"));
            due("minds 0", v.until(0), 1);
        });
        edge(21, "BAD.", () -> {
            for (int v : new int[] {-1, 2, LOWEST, HIGHEST}) {
                refused("until(" + v + ")", x -> x.until(v), -2);
            }
        });
        edge(22, "Behind how many MINUTES (0 .. TIME) a CAKE's BADNESS is least, of like ones the fewest (what 0), that (1).", () -> {
            HotCorner x = by("browns 10;cools 0;minds 2;");
            x.cake(0, 0, 0);
            x.cake(0, 200, 1);
            x.cake(0, 999, 2);
            x.cake(0, 5, 3);
            x.cake(0, 195, 4);
            x.cake(50, 30, 5);
            int[] minutes = {0, 20, 20, 0, 19, 3};
            int[] bad = {0, 0, 2 * 799, 10, 10, 0};
            for (int c = 0; c < 6; c++) {
                due("out(" + c + ", 0)", x.out(c, 0), minutes[c]);
                due("out(" + c + ", 1)", x.out(c, 1), bad[c]);
            }
            x.set(1, 0, 1);
            int[] then = {0, 1, 1, 0, 1, 1};
            for (int c = 0; c < 6; c++) {
                due("TIME 1, out(" + c + ", 0)", x.out(c, 0), then[c]);
            }
            x.force(read(x, "browns 10;cools 0;minds 0;"));
            due("all 0: the fewest", x.out(2, 0), 0);
            due("all 0", x.out(2, 1), 0);
            x.set(1, 0, 40);
            x.force(read(x, "browns 10;cools 0;minds 1;"));
            due("TIME 40", x.out(2, 0), 40);
            x.force(read(x, "browns 10;cools 0;minds 1+(brown=0)*50;"));
            due("minds, as brown as then", x.out(3, 0), 1);
        });
        edge(22, "-5: no such CAKE;", () -> {
            due("of none", new HotCorner().out(0, 0), -5);
            for (int c : new int[] {-1, 3, 8, LOWEST, HIGHEST}) {
                refused("out(" + c + ", 0)", x -> x.out(c, 0), -5);
                refused("out(" + c + ", 2)", x -> x.out(c, 2), -5);
            }
        });
        edge(22, "-7: what.", () -> {
            for (int what : new int[] {-1, 2, LOWEST, HIGHEST}) {
                refused("out(2, " + what + ")", x -> x.out(2, what), -7);
            }
        });
        edge(23, "The least BADNESS of each as of out(), all together.", () -> {
            HotCorner x = by("browns 99;cools 0;minds 99;");
            due("of none", x.singly(), 0);
            int all = 0;
            for (int c = 0; c < 8; c++) {
                x.cake(c == 7 ? 50 : 0, 40 + c, c);
                all += x.out(c, 1);
                due("of " + (c + 1), x.singly(), all);
            }
            due("of eight", all, 99 * (40 + 41 + 42 + 43 + 44 + 45 + 46));
        });
    }

    private static void enough() {
        edge(24, "The least number of MINUTES (0 .. TIME) behind which a CAKE is b (0 .. 999) BROWN, or more; -1: none.", () -> {
            HotCorner x = by("browns 99;cools 0;minds 1;");
            x.cake(0, 0, 0);
            due("0", x.soon(0, 0), 0);
            due("1", x.soon(0, 1), 1);
            due("99", x.soon(0, 99), 1);
            due("100", x.soon(0, 100), 2);
            due("999", x.soon(0, 999), 11);
            x.set(1, 0, 11);
            due("in the last minute", x.soon(0, 999), 11);
            x.set(1, 0, 10);
            due("none", x.soon(0, 999), -1);
            due("990", x.soon(0, 990), 10);
            due("none", x.soon(0, 991), -1);
            x.cake(39, 0, 1);
            due("none, but 0", x.soon(1, 1), 9);
            x.set(1, 0, 8);
            due("not begun", x.soon(1, 1), -1);
            due("not begun", x.soon(1, 0), 0);
            x.force(read(x, "browns minute=39;cools 0;minds 1;"));
            x.set(1, 0, 40);
            due("in the last of 40", x.soon(0, 1), 40);
        });
        edge(24, "-5: no such CAKE;", () -> {
            due("of none", new HotCorner().soon(0, 0), -5);
            for (int c : new int[] {-1, 3, 8, LOWEST, HIGHEST}) {
                refused("soon(" + c + ", 0)", x -> x.soon(c, 0), -5);
                refused("soon(" + c + ", 1000)", x -> x.soon(c, 1000), -5);
            }
        });
        edge(24, "-7: b.", () -> {
            for (int b : new int[] {-1, 1000, LOWEST, HIGHEST}) {
                refused("soon(2, " + b + ")", x -> x.soon(2, b), -7);
            }
        });
        edge(25, "The least n (0 .. OPENINGS) such that, had THE PLAN but its first n OPENINGS, APART at the end would be far (0 .. 999) or less; -1: there is none.", () -> {
            due("of none", new HotCorner().few(0), 0);
            HotCorner x = by("browns 2*more*(6-openings);cools 0;minds 1;");
            x.set(1, 0, 1);
            x.cake(0, 0, 0);
            x.cake(5, 0, 1);
            due("none", x.few(59), -1);
            due("as apart as far", x.few(60), 0);
            for (int k = 0; k < 6; k++) {
                x.open(k == 0 ? 0 : 33 + k, 0);
                due("the last of them", x.few(60 - 10 * (k + 1)), k + 1);
                due("1 less", x.few(59 - 10 * k), k + 1);
                due("as far", x.few(60 - 10 * k), k);
                due("none", x.few(60), 0);
                due("none", x.few(999), 0);
                if (k < 5) {
                    due("not by any", x.few(49 - 10 * k), -1);
                    due("not by any", x.few(0), -1);
                }
            }
            due("all six", x.few(0), 6);
            x.force(read(x, "browns 2*more*(not openings=1);cools 0;minds 1;"));
            due("the least, though more are worse", x.few(0), 1);
            HotCorner y = by("browns heat;cools 0;minds 1;");
            y.set(0, 0, 99);
            y.set(0, 1, 0);
            y.cake(0, 0, 0);
            y.cake(0, 0, 1);
            y.set(1, 0, 40);
            due("999 apart", y.few(998), -1);
            due("999 apart", y.few(999), 0);
        });
        edge(25, "BAD.", () -> {
            for (int far : new int[] {-1, 1000, LOWEST, HIGHEST}) {
                refused("few(" + far + ")", x -> x.few(far), -2);
            }
        });
        edge(26, "BADNESS at the end, less what it would be, were all SPOTS as HOT as all of them together by 16 (cut).", () -> {
            HotCorner x = by("browns heat;cools 0;minds 1;");
            x.set(1, 0, 1);
            due("of none", x.fan(), 0);
            x.cake(0, 0, 5);
            x.cake(0, 0, 6);
            due("all alike", x.fan(), 0);
            x.set(0, 0, 25);
            due("15 more, cut", x.fan(), 0);
            x.set(0, 0, 26);
            due("16 more", x.fan(), 20 - 22);
            x.set(0, 5, 9);
            due("15 more", x.fan(), 19 - 20);
            allHot(x, 0);
            x.set(0, 5, 15);
            due("0, cut", x.fan(), 15);
            x.set(0, 6, 1);
            due("1", x.fan(), 16 - 2);
            allHot(x, 99);
            due("hottest", x.fan(), 0);
            x.move(0, 0);
            x.move(1, 15);
            x.set(0, 0, 0);
            x.set(0, 15, 0);
            due("all spots, the first and the last too", x.fan(), 0 - 2 * 86);
            x.move(0, 5);
            x.move(1, 6);
            allHot(x, 99);
            x.set(0, 15, 98);
            due("98, cut", x.fan(), 2 * 99 - 2 * 98);
            x.open(0, 0);
            x.force(read(x, "browns heat;cools openings;minds 1;"));
            due("THE PLAN stays", x.fan(), 2 * 98 - 2 * 97);
        });
        edge(27, "BADNESS at the end, less what it would be, had THE PLAN no OPENINGS.", () -> {
            HotCorner x = by("browns heat+openings;cools 0;minds 1;");
            due("of none", x.cost(), 0);
            x.set(1, 0, 1);
            x.cake(0, 0, 0);
            due("none", x.cost(), 0);
            for (int k = 1; k <= 6; k++) {
                x.open(33 + k, 2);
                due("of " + k + " that do not come", x.cost(), k);
            }
            x.shut();
            x.set(0, 15, 4);
            x.open(0, 2);
            due("it is worth something", x.cost(), 5 - 10);
            x.force(read(x, "browns since+10;cools 0;minds 1;"));
            x.set(1, 0, 3);
            x.shut();
            x.open(2, 0);
            due("since is the minute, without", x.cost(), (10 + 11 + 10) - (10 + 11 + 12));
        });
    }

    // ---- promises: where to lay what

    private static void whereToLay() {
        edge(28, "The PLACE (its own, or one where no other CAKE is) by which its BADNESS at the end would be least, of like ones the first (what 0), that (1).", () -> {
            HotCorner x = by("browns heat;cools 0;minds 3;");
            x.set(1, 0, 1);
            x.cake(0, 10, 7);
            due("all alike: the first", x.lay(0, 0), 0);
            due("0", x.lay(0, 1), 0);
            for (int place = 0; place < 7; place++) {
                x.cake(0, 0, place);
                due("the first that is free", x.lay(0, 0), place == 6 ? 7 : place + 1);
            }
            due("of cake 1 its own", x.lay(1, 0), 0);
            due("of the last one", x.lay(7, 0), 6);
            x.set(0, 7, 9);
            due("the next one", x.lay(0, 0), 8);
            for (int spot = 0; spot < 15; spot++) {
                x.set(0, spot, 9);
            }
            due("the last place", x.lay(0, 0), 15);
            x.set(0, 15, 12);
            due("its own, by 1 off", x.lay(0, 0), 7);
            due("that", x.lay(0, 1), 3);
            x.set(0, 3, 10);
            due("another's is not free", x.lay(0, 0), 7);
            x.set(0, 8, 11);
            due("of like ones the first", x.lay(0, 0), 7);
            x.set(0, 0, 10);
            due("another's is not free, the first one's neither", x.lay(0, 0), 7);
            due("another's is not free, the first one's neither", x.lay(0, 1), 3);
            HotCorner y = by("browns heat;cools 0;minds 1;");
            y.set(0, 3, 20);
            y.set(2, 0, 1);
            y.cake(0, 400, 9);
            due("as THE TIN LIES", y.lay(0, 0), 0);
            y.set(2, 0, 0);
            due("as THE TIN LIES", y.lay(0, 0), 3);
        });
        edge(28, "-5: no such CAKE;", () -> {
            due("of none", new HotCorner().lay(0, 0), -5);
            for (int c : new int[] {-1, 3, 8, LOWEST, HIGHEST}) {
                refused("lay(" + c + ", 0)", x -> x.lay(c, 0), -5);
                refused("lay(" + c + ", 2)", x -> x.lay(c, 2), -5);
            }
        });
        edge(28, "-7: what.", () -> {
            for (int what : new int[] {-1, 2, LOWEST, HIGHEST}) {
                refused("lay(2, " + what + ")", x -> x.lay(2, what), -7);
            }
        });
        edge(29, "The two CAKES, the lesser first, by whose PLACES changing BADNESS of all at the end would be least, if less than now, of like ones the first: 10 times the one, and the other (what 0; -1: none), that (1; as now, if none).", () -> {
            HotCorner x = by("browns heat;cools 0;minds 1;");
            x.set(1, 0, 1);
            due("of no cakes", x.swap(0), -1);
            due("of no cakes", x.swap(1), 0);
            x.cake(0, 0, 0);
            due("of one", x.swap(0), -1);
            due("of one: as now", x.swap(1), 10);
            x.cake(0, 0, 1);
            due("as bad as now", x.swap(0), -1);
            due("as now", x.swap(1), 20);
            x.set(0, 1, 20);
            x.cake(0, 20, 2);
            due("of like ones the first", x.swap(0), 12);
            due("20 less", x.swap(1), 20);
            x.cake(0, 20, 3);
            due("of like ones the first", x.swap(0), 12);
            due("that", x.swap(1), 30);
            x.move(1, 15);
            x.set(0, 15, 20);
            x.set(0, 1, 10);
            due("wherever they lie", x.swap(0), 12);
            for (int c = 4; c < 8; c++) {
                x.cake(0, 10, c);
            }
            x.set(0, 6, 50);
            x.move(6, 8);
            x.set(0, 15, 10);
            x.set(0, 8, 15);
            // 6 is 5 too hot; 2 and 3 wish to be hotter
            due("six and two", x.swap(0), 26);
            x.set(0, 8, 10);
            x.set(0, 7, 20);
            due("the last one", x.swap(0), 27);
            x.set(0, 0, 20);
            due("the first one is too hot by 20", x.swap(0), 2);
            x.set(0, 0, 15);
            x.set(0, 9, 0);
            x.move(7, 9);
            due("the first and the last", x.swap(0), 7);
            HotCorner y = by("browns heat;cools 0;minds 1;");
            y.set(1, 0, 1);
            y.set(0, 7, 11);
            for (int c = 0; c < 8; c++) {
                y.cake(0, c < 6 ? 10 : 17 - c, c);
            }
            due("6 and 7", y.swap(0), 67);
            due("0", y.swap(1), 0);
            y.move(6, 15);
            y.move(7, 6);
            y.move(6, 7);
            due("none is less", y.swap(0), -1);
            due("as now", y.swap(1), 0);
        });
        edge(29, "BAD.", () -> {
            for (int v : new int[] {-1, 2, LOWEST, HIGHEST}) {
                refused("swap(" + v + ")", x -> x.swap(v), -2);
                due("of none", new HotCorner().swap(v), -2);
            }
        });
        edge(30, "How THE TIN should LIE at first, so that BADNESS at the end is least, of like ones by the fewest quarters (what 0), that (1).", () -> {
            HotCorner x = by("browns heat;cools 0;minds 1;");
            x.set(1, 0, 1);
            x.set(2, 0, 2);
            due("of none", x.which(0), 0);
            due("of none", x.which(1), 0);
            x.cake(0, 20, 0);
            due("all alike", x.which(0), 0);
            due("that", x.which(1), 10);
            x.set(0, 12, 20);
            due("3", x.which(0), 3);
            due("that", x.which(1), 0);
            x.set(0, 15, 20);
            due("2, of 2 and 3", x.which(0), 2);
            x.set(0, 3, 20);
            due("1, of 1 .. 3", x.which(0), 1);
            x.set(0, 0, 20);
            due("0, of all", x.which(0), 0);
            allHot(x, 10);
            x.set(0, 12, 20);
            x.open(0, 3);
            due("at first, ahead of the opening", x.which(0), 0);
            x.shut();
            x.open(0, 2);
            due("at first, ahead of the opening", x.which(0), 1);
            due("it lies as it lay", x.count(2), 2);
        });
        edge(30, "BAD.", () -> {
            for (int v : new int[] {-1, 2, LOWEST, HIGHEST}) {
                refused("which(" + v + ")", x -> x.which(v), -2);
            }
        });
    }

    // ---- promises: told tins

    private interface Judged {
        long of(HotCorner x, int s, int rest);
    }

    // a sheet that is none, missing, too short or too long is refused ahead of all else that may be wrong

    private static void noSuchSheet(Judged call, boolean isLong) {
        for (int s : new int[] {-1, 4, LOWEST, HIGHEST}) {
            refused("of sheet " + s, x -> call.of(x, s, 0), isLong ? HotCorner.NO : -2);
            refused("of sheet " + s + " and more", x -> call.of(x, s, 99), isLong ? HotCorner.NO : -2);
        }
    }

    private static void missingSheet(Judged call, boolean isLong) {
        for (int s = 0; s < 4; s++) {
            due("at first", call.of(new HotCorner(), s, 0), isLong ? HotCorner.NO : -11);
        }
        refused("missing", x -> call.of(x, 3, 0), isLong ? HotCorner.NO : -11);
        refused("missing and more", x -> call.of(x, 3, 99), isLong ? HotCorner.NO : -11);
        refused(x -> x.sheet(1, -1, 0), "missing again", x -> call.of(x, 1, 0), isLong ? HotCorner.NO : -11);
    }

    private static void unlikeSheet(Judged call, boolean isLong) {
        long due = isLong ? HotCorner.NO : -2;
        refused("too many", x -> call.of(x, 0, 0), due);
        refused("too many and more", x -> call.of(x, 0, 99), due);
        refused(x -> x.sheet(3, 1, 4), "1 too many", x -> call.of(x, 3, 0), due);
        refused(x -> x.sheet(3, 1, 2), "1 too few", x -> call.of(x, 3, 0), due);
        refused(x -> x.sheet(3, 1, 0), "of none", x -> call.of(x, 3, 0), due);
        refused(EdgeTest::fullOfCakes, "cakes that came since", x -> call.of(x, 1, 0), due);
        HotCorner x = new HotCorner();
        x.sheet(0, 2, 1);
        due("1, and no cake", call.of(x, 0, 0), due);
    }

    /** One cake that gets as brown as its spot is hot, and its sheet of a sort. */
    private static HotCorner oneMinute(int hot, int sort, int told) {
        HotCorner x = by("browns heat;cools 0;minds 1;");
        x.set(1, 0, 1);
        x.set(0, 0, hot);
        x.cake(0, 0, 0);
        row(x, 0, sort, told);
        return x;
    }

    private static void toldTins() {
        edge(31, "A SHEET tells how BROWN each CAKE is at the end: the first that is otherwise; -1: none.", () -> {
            HotCorner none = new HotCorner();
            none.sheet(3, 0, 0);
            due("no cakes, no cells", none.judge(3), -1);
            HotCorner x = by("browns more;cools 0;minds 1;");
            x.set(1, 0, 1);
            x.sheet(2, 1, 8);
            for (int c = 0; c < 8; c++) {
                x.cake(c + 1, 0, c);
                x.cell(2, c, c + 1);
            }
            due("none", x.judge(2), -1);
            for (int c = 7; c >= 0; c--) {
                x.cell(2, c, c + 2);
                due("otherwise from " + c + " on", x.judge(2), c);
            }
            for (int c = 0; c < 8; c++) {
                x.cell(2, c, c + 1);
                due("otherwise behind " + c, x.judge(2), c < 7 ? c + 1 : -1);
            }
            x.set(1, 0, 2);
            due("at the end", x.judge(2), 0);
            due("bytes, 99", oneMinute(99, 0, 99).judge(0), -1);
            due("bytes, 99 and 256", oneMinute(99, 0, 355).judge(0), -1);
            due("shorts, 99 and 256", oneMinute(99, 1, 355).judge(0), 0);
            due("shorts, 99 and 65536", oneMinute(99, 1, 65635).judge(0), -1);
            due("ints, 99 and 65536", oneMinute(99, 2, 65635).judge(0), 0);
            due("ints, 1 more", oneMinute(99, 2, 100).judge(0), 0);
            due("ints, 1 less", oneMinute(99, 2, 98).judge(0), 0);
        });
        edge(31, "BAD: SHEET;", () -> noSuchSheet((x, s, rest) -> x.judge(s), false));
        edge(31, "-11;", () -> missingSheet((x, s, rest) -> x.judge(s), false));
        edge(31, "BAD: it tells not as many as there are CAKES.", () -> unlikeSheet((x, s, rest) -> x.judge(s), false));
        edge(32, "Quarters (bits 0 .. 3) by which, did THE TIN LIE so, that would be -1.", () -> {
            HotCorner none = new HotCorner();
            none.sheet(3, 2, 0);
            due("no cakes", none.how(3), 15);
            HotCorner x = oneMinute(1, 0, 1);
            due("0", x.how(0), 1);
            x.cell(0, 0, 10);
            due("1, 2, 3", x.how(0), 2 + 4 + 8);
            x.cell(0, 0, 2);
            due("none", x.how(0), 0);
            x.set(0, 12, 2);
            due("3", x.how(0), 8);
            x.set(2, 0, 1);
            due("however it lies", x.how(0), 8);
            x.open(0, 1);
            due("2, and turned by 1", x.how(0), 4);
            due("it lies as it lay", x.count(2), 1);
            allHot(x, 2);
            due("all", x.how(0), 15);
        });
        edge(32, "BAD, -11, BAD likewise.", () -> {
            noSuchSheet((x, s, rest) -> x.how(s), false);
            missingSheet((x, s, rest) -> x.how(s), false);
            unlikeSheet((x, s, rest) -> x.how(s), false);
        });
    }

    private static void toldKindsAndHeats() {
        edge(33, "KINDS (sort 0; bits 0 .. 5), MORE (1; bits 0 .. 9) by which, were they a CAKE's, all else being as it is, that would be -1.", () -> {
            HotCorner x = oneMinute(30, 1, 30);
            due("CAKE, THIN, SUGARED, GRANDFATHERS", x.kinds(0, 0, 0), 1 + 4 + 16 + 32);
            due("any MORE of a CAKE", x.kinds(0, 0, 1), 1023);
            x.cell(0, 0, 20);
            due("THICK", x.kinds(0, 0, 0), 2);
            due("no MORE of a CAKE", x.kinds(0, 0, 1), 0);
            x.cell(0, 0, 0);
            due("FROZEN", x.kinds(0, 0, 0), 8);
            x.cell(0, 0, 31);
            due("none", x.kinds(0, 0, 0), 0);
            HotCorner y = by("browns heat+more*0;cools 0;minds 1;");
            y.set(1, 0, 1);
            y.cake(29, 0, 0);
            row(y, 0, 2, 14);
            due("THIN with 8 and 9", y.kinds(0, 0, 1), 256 + 512);
            due("THIN and SUGARED", y.kinds(0, 0, 0), 4 + 16);
            y.cell(0, 0, 10);
            due("THIN with 0 and 1", y.kinds(0, 0, 1), 1 + 2);
            due("GRANDFATHERS, THICK no more", y.kinds(0, 0, 0), 1 + 32);
            due("it is as it was", y.told(0, 0), 2);
            due("it is as it was", y.told(0, 1), 9);
            y.cake(10, 0, 1);
            row(y, 0, 2, 14, 6);
            due("the other is right", y.kinds(0, 0, 0), 4 + 16);
            due("of the other", y.kinds(0, 1, 0), 2);
            due("THICK with 0, 1 or 2", y.kinds(0, 1, 1), 1 + 2 + 4);
            y.cell(0, 1, 5);
            due("the other is otherwise", y.kinds(0, 0, 0), 0);
        });
        edge(33, "BAD, -11, BAD likewise;", () -> {
            noSuchSheet((x, s, rest) -> x.kinds(s, rest, rest), false);
            missingSheet((x, s, rest) -> x.kinds(s, rest, rest), false);
            unlikeSheet((x, s, rest) -> x.kinds(s, rest, rest), false);
        });
        edge(33, "-5: no such CAKE;", () -> {
            for (int c : new int[] {-1, 3, 8, LOWEST, HIGHEST}) {
                refused("kinds(1, " + c + ", 0)", x -> x.kinds(1, c, 0), -5);
                refused("kinds(1, " + c + ", 2)", x -> x.kinds(1, c, 2), -5);
            }
            HotCorner none = new HotCorner();
            none.sheet(0, 0, 0);
            due("of none", none.kinds(0, 0, 0), -5);
        });
        edge(33, "-7: sort.", () -> {
            for (int sort : new int[] {-1, 2, LOWEST, HIGHEST}) {
                refused("kinds(1, 2, " + sort + ")", x -> x.kinds(1, 2, sort), -7);
            }
        });
        edge(34, "How HOT (0 .. 99) a SPOT would be, so that that would be -1: what 0 how many there are, 1 the least, 2 the most (-1: none).", () -> {
            int[][] due = {{0, 1, 0, 0}, {99, 1, 99, 99}, {50, 1, 50, 50}, {100, 0, -1, -1}, {-1, 0, -1, -1}};
            for (int[] one : due) {
                HotCorner x = oneMinute(10, 2, one[0]);
                for (int what = 0; what < 3; what++) {
                    due("heats of " + one[0] + ", " + what, x.heats(0, 0, what), one[what + 1]);
                }
                due("it is as hot as it was", x.hot(0), 10);
            }
            HotCorner x = oneMinute(10, 2, 10);
            due("another spot: all", x.heats(0, 15, 0), 100);
            due("another spot: all", x.heats(0, 15, 1), 0);
            due("another spot: all", x.heats(0, 15, 2), 99);
            HotCorner y = oneMinute(10, 2, 10);
            y.force(read(y, "browns heat*(heat<20)+(19<heat)*7;cools 0;minds 1;"));
            y.cell(0, 0, 7);
            due("7, and 20 to 99", y.heats(0, 0, 0), 81);
            due("7, and 20 to 99", y.heats(0, 0, 1), 7);
            due("7, and 20 to 99", y.heats(0, 0, 2), 99);
            HotCorner none = new HotCorner();
            none.sheet(0, 0, 0);
            due("no cakes: all", none.heats(0, 0, 0), 100);
        });
        edge(34, "BAD, -11, BAD likewise;", () -> {
            noSuchSheet((x, s, rest) -> x.heats(s, rest, rest), false);
            missingSheet((x, s, rest) -> x.heats(s, rest, rest), false);
            unlikeSheet((x, s, rest) -> x.heats(s, rest, rest), false);
        });
        edge(34, "-6: no such SPOT;", () -> {
            for (int spot : new int[] {-1, 16, LOWEST, HIGHEST}) {
                refused("heats(1, " + spot + ", 0)", x -> x.heats(1, spot, 0), -6);
                refused("heats(1, " + spot + ", 3)", x -> x.heats(1, spot, 3), -6);
            }
        });
        edge(34, "-7: what.", () -> {
            for (int what : new int[] {-1, 3, LOWEST, HIGHEST}) {
                refused("heats(1, 15, " + what + ")", x -> x.heats(1, 15, what), -7);
            }
        });
    }

    private static void toldTurnsAndLaws() {
        edge(35, "MINUTES (bits, 0 .. TIME less 1) at which, were THE PLAN one OPENING alone, of 2 QUARTERS, then, that would be -1.", () -> {
            for (int time = 1; time <= 40; time++) {
                HotCorner x = oneMinute(10, 2, 0);
                x.set(0, 15, 11);
                x.set(1, 0, time);
                for (int minute = 0; minute < time; minute += time - 1 - minute > 3 ? 3 : 1) {
                    x.cell(0, 0, 10 * minute + 11 * (time - minute));
                    due("minute " + minute + " of " + time, x.turned(0), 1L << minute);
                }
                x.cell(0, 0, 10 * time);
                due("not at all, of " + time, x.turned(0), 0);
                x.cell(0, 0, 11 * time + 1);
                due("never, of " + time, x.turned(0), 0);
            }
            HotCorner x = oneMinute(10, 2, 400);
            x.set(1, 0, 40);
            x.open(3, 1);
            due("any of 40", x.turned(0), 1099511627775L);
            x.set(1, 0, 1);
            x.cell(0, 0, 10);
            due("any of 1", x.turned(0), 1);
            due("THE PLAN is as it was", x.opening(0, 0), 3);
            HotCorner none = new HotCorner();
            none.sheet(0, 0, 0);
            due("no cakes: any", none.turned(0), 1048575);
        });
        edge(35, "NO: refused likewise.", () -> {
            noSuchSheet((x, s, rest) -> x.turned(s), true);
            missingSheet((x, s, rest) -> x.turned(s), true);
            unlikeSheet((x, s, rest) -> x.turned(s), true);
        });
        edge(36, "TEXTS (bits), were they THE LAW, by which that would be -1.", () -> {
            HotCorner x = new HotCorner();
            x.set(1, 0, 1);
            x.cake(0, 0, 0);
            row(x, 0, 1, 20);
            due("the first", x.laws(0), 1);
            for (int t = 1; t < 6; t++) {
                read(x, "browns " + (t & 1) * 20 + ";cools 0;minds 1;");
                due("of " + t, x.laws(0), new int[] {1, 3, 3, 11, 11, 43}[t]);
            }
            x.force(4);
            due("whatever the law is", x.laws(0), 43);
            x.cell(0, 0, 0);
            due("the others", x.laws(0), 20);
            x.cell(0, 0, 1);
            due("none", x.laws(0), 0);
            due("the law is as it was", x.count(5), 4);
            HotCorner none = new HotCorner();
            none.sheet(0, 0, 0);
            due("no cakes, one text", none.laws(0), 1);
            fullOfTexts(none);
            due("no cakes, six texts", none.laws(0), 63);
        });
        edge(36, "BAD, -11, BAD likewise.", () -> {
            noSuchSheet((x, s, rest) -> x.laws(s), false);
            missingSheet((x, s, rest) -> x.laws(s), false);
            unlikeSheet((x, s, rest) -> x.laws(s), false);
        });
        edge(37, "A SHEET truly becomes how BROWN all CAKES are behind so many MINUTES (0 .. TIME; shorts): how many.", () -> {
            HotCorner none = new HotCorner();
            none.sheet(0, 2, 40);
            due("of none", none.film(0, 0), 0);
            due("no cells", none.cell(0, 0, 0), -12);
            due("shorts", none.cakesBy(0, 1, 0, 0), 0);
            HotCorner x = by("browns 99;cools 0;minds 1;");
            fullOfCakes(x);
            due("of eight, of a missing sheet", x.film(3, 20), 8);
            due("the eighth", x.cell(3, 7, 999), 1);
            due("no ninth", x.cell(3, 8, 0), -12);
            due("999 each", x.judge(3), -1);
            due("behind 0", x.film(3, 0), 8);
            x.force(read(x, "browns 0;cools 0;minds 1;"));
            due("0 each", x.judge(3), -1);
            x.force(1);
            due("behind TIME", x.film(0, 20), 8);
            due("behind 1 less", x.film(1, 19), 8);
            due("999 then, too", x.judge(1), -1);
            x.set(1, 0, 5);
            due("behind 5", x.film(2, 5), 8);
            due("495 each", x.judge(2), -1);
            due("behind 4", x.film(2, 4), 8);
            due("396 each", x.judge(2), 0);
            HotCorner y = rich();
            HotCorner z = rich();
            y.film(3, 5);
            z.sheet(3, 1, 3);
            for (int c = 0; c < 3; c++) {
                z.cell(3, c, z.at(c, 5));
            }
            alike("film(3, 5)", y, z);
        });
        edge(37, "BAD.", () -> {
            for (int v : new int[] {-1, LOWEST, HIGHEST, 9, 40}) {
                refused("film(" + v + ", 8)", x -> x.film(v, 8), -2);
                refused("film(0, " + v + ")", x -> x.film(0, v), -2);
            }
            refused("film(4, 8)", x -> x.film(4, 8), -2);
        });
    }

    // ---- promises: ovens by lot

    private static void byLot() {
        edge(38, "DRAWN: what 0 BADNESS, 1 APART at the end.", () -> {
            HotCorner x = by("browns heat;cools 0;minds 2;");
            x.set(1, 0, 1);
            due("of none", x.drawn(0, 0), 0);
            due("of none", x.drawn(99999, 1), 0);
            // by 0: 48271, 182605794, 1291394886, .. : 1, 24, 6, 7 hot; by 1 twice as much, less 2147483647 where needed
            x.cake(0, 0, 0);
            due("1", x.drawn(0, 0), 2);
            due("one alone", x.drawn(0, 1), 0);
            x.cake(0, 0, 1);
            due("1 and 24", x.drawn(0, 0), 50);
            due("1 and 24", x.drawn(0, 1), 23);
            due("2 and 18", x.drawn(1, 1), Math.abs(96542 % 30 - 365211588 % 30));
            due("hot as before", x.hot(0), 10);
        });
        edge(38, "BAD.", () -> {
            for (int v : new int[] {-1, 100000, LOWEST, HIGHEST}) {
                refused("drawn(" + v + ", 0)", x -> x.drawn(v, 0), -2);
            }
            for (int v : new int[] {-1, 2, LOWEST, HIGHEST}) {
                refused("drawn(0, " + v + ")", x -> x.drawn(0, v), -2);
            }
        });
        edge(39, "In how many of so many (1 .. 20) seeds, SEED and each 1 more (they may pass 99999), APART is far (0 .. 999) or less: part 0 above, 1 below the line, in lowest terms.", () -> {
            HotCorner x = by("browns heat;cools 0;minds 1;");
            due("of no cakes", x.odds(0, 20, 0, 0), 1);
            due("of no cakes", x.odds(0, 20, 0, 1), 1);
            int[] seeds = {0, 7, 99980, 99981, 99999};
            for (int seed : seeds) {
                HotCorner y = by("browns heat;cools 0;minds 1;");
                y.set(1, 0, 1);
                y.cake(0, 0, 0);
                y.cake(0, 0, 1);
                for (int many : new int[] {1, 2, 3, 4, 6, 12, 15, 19, 20}) {
                    for (int far : new int[] {0, 1, 5, 9, 10, 28, 29, 999}) {
                        int above = 0;
                        for (int i = 0; i < many; i++) {
                            long first = (seed + i + 1L) * 48271 % 2147483647L;
                            long second = first * 48271 % 2147483647L;
                            above += Math.abs(first % 30 - second % 30) <= far ? 1 : 0;
                        }
                        int by = java.math.BigInteger.valueOf(above).gcd(java.math.BigInteger.valueOf(many)).intValue();
                        String call = "odds(" + seed + ", " + many + ", " + far;
                        due(call + ", 0)", y.odds(seed, many, far, 0), above / by);
                        due(call + ", 1)", y.odds(seed, many, far, 1), many / by);
                    }
                }
            }
        });
        edge(39, "NO: none such.", () -> {
            for (int v : new int[] {-1, 100000, LOWEST, HIGHEST}) {
                refused("seed " + v, x -> x.odds(v, 1, 0, 0), HotCorner.NO);
            }
            for (int v : new int[] {-1, 0, 21, LOWEST, HIGHEST}) {
                refused("seeds " + v, x -> x.odds(0, v, 0, 0), HotCorner.NO);
            }
            for (int v : new int[] {-1, 1000, LOWEST, HIGHEST}) {
                refused("far " + v, x -> x.odds(0, 1, v, 0), HotCorner.NO);
            }
            for (int v : new int[] {-1, 2, LOWEST, HIGHEST}) {
                refused("part " + v, x -> x.odds(0, 1, 0, v), HotCorner.NO);
            }
        });
    }

    private static void kept() {
        edge(40, "AN IMAGE is kept: how many CAKES.", () -> {
            HotCorner x = new HotCorner();
            due("of none", x.image(), 0);
            x.set(1, 0, 33);
            due("the image is as it was", x.back(), 0);
            due("of TIME 20", x.count(1), 20);
            fullOfCakes(x);
            due("of eight", x.image(), 8);
            due("the last one counts", x.back(), 8);
            HotCorner y = rich();
            HotCorner z = rich();
            due("image()", y.image(), 3);
            z.image();
            for (HotCorner one : new HotCorner[] {y, z}) {
                one.text();
                feed(one, "browns 3;cools 2;minds 1;");
                row(one, 0, 1, 3, 4, 2, 5, 6, 1);
                one.sheet(3, 0, 4);
            }
            due("the same image", y.image(), 3);
            alike("image()", y, z);
        });
        edge(41, "All that it keeps is as in THE IMAGE, CAKES that came since are none: how many there are.", () -> {
            HotCorner x = rich();
            due("two of three", x.back(), 2);
            due("the third is none", x.told(2, 0), -5);
            due("its place is free", x.taken(10, 0), -11);
            due("as it lay", x.told(0, 3), 5);
            due("as hot", x.hot(4), 10);
            due("one opening", x.count(3), 1);
            due("again", x.back(), 2);
            due("a third", x.cake(0, 7, 10), 2);
            due("is another one", x.told(2, 2), 7);
            due("texts stay", x.count(4), 2);
            due("bytes of the tape stay", x.count(6), 25);
            due("sheets stay", x.cell(0, 5, 0), 1);
            HotCorner y = new HotCorner();
            y.image();
            fullOfCakes(y);
            due("none of eight", y.back(), 0);
            fullOfCakes(y);
            due("there is room for eight", y.count(0), 8);
            HotCorner z = new HotCorner();
            fullOfCakes(z);
            fullOfOpenings(z);
            z.image();
            z.shut();
            due("all of eight", z.back(), 8);
            due("all of six openings", z.count(3), 6);
            due("the last one", z.opening(5, 0), 10);
        });
        edge(41, "STATE: there is none.", () -> {
            HotCorner x = new HotCorner();
            due("none at first", x.back(), -3);
            x.cake(0, 0, 0);
            x.set(1, 0, 7);
            due("none yet", x.back(), -3);
            due("it changes nothing", x.count(0) + x.count(1), 8);
            x.image();
            due("one", x.back(), 1);
        });
    }

    // ---- promises: the host

    private static void sheets() {
        edge(42, "A SHEET becomes a row of n of a sort, all 0, or missing (sort -1: n does not matter): 1.", () -> {
            for (int sort = 0; sort < 3; sort++) {
                HotCorner x = rich();
                due("of none", x.sheet(0, sort, 0), 1);
                due("no cells", x.cell(0, 0, 0), -12);
                due("of 40", x.sheet(0, sort, 40), 1);
                due("the last cell", x.cell(0, 39, 7), 1);
                due("no more", x.cell(0, 40, 0), -12);
                due("of three", x.sheet(1, sort, 3), 1);
                due("of this sort", x.cakesBy(1, sort, 0, 0), 0);
                HotCorner y = by("browns 0;cools 0;minds 1;");
                row(y, 0, sort, 9, 9, 9);
                y.sheet(0, sort, 3);
                y.cake(0, 0, 0);
                y.cake(0, 0, 1);
                y.cake(0, 0, 2);
                due("all 0", y.judge(0), -1);
                row(y, 0, sort, 9, 9, 9, 9);
                y.sheet(0, sort, 1);
                y.sheet(0, sort, 3);
                due("all 0", y.judge(0), -1);
            }
            for (int n : new int[] {LOWEST, -1, 0, 40, 41, HIGHEST}) {
                HotCorner x = rich();
                due("missing, " + n, x.sheet(0, -1, n), 1);
                due("missing", x.judge(0), -11);
                due("missing anew", x.sheet(0, -1, n), 1);
                due("missing", x.cell(0, 0, 0), -11);
            }
        });
        edge(42, "BAD: SHEET, sort, n above 40;", () -> {
            for (int v : new int[] {-1, 4, LOWEST, HIGHEST}) {
                refused("sheet(" + v + ", 0, 1)", x -> x.sheet(v, 0, 1), -2);
                refused("sheet(" + v + ", 0, -1)", x -> x.sheet(v, 0, -1), -2);
                refused("sheet(" + v + ", -1, 0)", x -> x.sheet(v, -1, 0), -2);
            }
            for (int v : new int[] {-2, 3, LOWEST, HIGHEST}) {
                refused("sheet(0, " + v + ", 1)", x -> x.sheet(0, v, 1), -2);
                refused("sheet(0, " + v + ", -1)", x -> x.sheet(0, v, -1), -2);
            }
            for (int v : new int[] {41, HIGHEST}) {
                refused("sheet(0, 0, " + v + ")", x -> x.sheet(0, 0, v), -2);
                refused("sheet(3, 2, " + v + ")", x -> x.sheet(3, 2, v), -2);
            }
        });
        edge(42, "-14.", () -> {
            for (int v : new int[] {-1, -40, LOWEST}) {
                refused("sheet(0, 0, " + v + ")", x -> x.sheet(0, 0, v), -14);
                refused("sheet(3, 2, " + v + ")", x -> x.sheet(3, 2, v), -14);
            }
        });
        edge(43, "Number i of a SHEET becomes v (of bytes, shorts its lowest 8, 16 bits): 1.", () -> {
            // what is told of a cake that is 99 brown, or 0
            int[][] same = {{99, 0}, {99 + 256, 0}, {99 - 256, 0}, {99 + 65536, 1}, {99 - 65536, 1}, {99 + (1 << 30), 1}, {99, 2}};
            for (int[] one : same) {
                due(one[0] + " of sort " + one[1], oneMinute(99, one[1], one[0]).judge(0), -1);
            }
            int[][] other = {{99 + 256, 1}, {99 + 65536, 2}, {99 + 128, 0}, {99 + 32768, 1}, {-99, 0}, {-99, 1}, {-99, 2}};
            for (int[] one : other) {
                due(one[0] + " of sort " + one[1], oneMinute(99, one[1], one[0]).judge(0), 0);
            }
            for (int[] one : new int[][] {{256, 0}, {LOWEST, 0}, {65536, 1}, {LOWEST, 1}, {0, 2}}) {
                due(one[0] + " of sort " + one[1], oneMinute(0, one[1], one[0]).judge(0), -1);
            }
            for (int[] one : new int[][] {{255, 0}, {HIGHEST, 0}, {256, 1}, {HIGHEST, 1}, {65536, 2}, {LOWEST, 2}}) {
                due(one[0] + " of sort " + one[1], oneMinute(0, one[1], one[0]).judge(0), 0);
            }
            HotCorner x = by("browns 99;cools 0;minds 1;");
            x.set(1, 0, 2);
            x.cake(0, 0, 0);
            row(x, 0, 0, 198);
            due("a byte is -128 .. 127, so 198 is -58", x.judge(0), 0);
            row(x, 0, 1, 198);
            due("a short is 198", x.judge(0), -1);
            HotCorner y = rich();
            due("the first", y.cell(1, 0, 1), 1);
            due("the last", y.cell(1, 2, 1), 1);
        });
        edge(43, "BAD: SHEET;", () -> {
            for (int v : new int[] {-1, 4, LOWEST, HIGHEST}) {
                refused("cell(" + v + ", 0, 1)", x -> x.cell(v, 0, 1), -2);
                refused("cell(" + v + ", 99, 1)", x -> x.cell(v, 99, 1), -2);
            }
        });
        edge(43, "-11;", () -> {
            refused("cell(3, 0, 1)", x -> x.cell(3, 0, 1), -11);
            refused("cell(3, 99, 1)", x -> x.cell(3, 99, 1), -11);
            refused(x -> x.sheet(0, -1, 0), "of one that was", x -> x.cell(0, 0, 1), -11);
        });
        edge(43, "-12.", () -> {
            for (int i : new int[] {-1, 6, 40, LOWEST, HIGHEST}) {
                refused("cell(0, " + i + ", 1)", x -> x.cell(0, i, 1), -12);
            }
            refused(x -> x.sheet(3, 0, 0), "of no cells", x -> x.cell(3, 0, 1), -12);
            refused(x -> x.sheet(3, 0, 40), "of 40 cells", x -> x.cell(3, 40, 1), -12);
        });
    }

    /** Four ints on sheet 0, four others on sheet 1, and a law by which a cake gets as brown as its MORE. */
    private static HotCorner twoRows() {
        HotCorner x = by("browns more;cools 0;minds 1;");
        x.set(1, 0, 1);
        row(x, 0, 2, 1, 2, 3, 4);
        row(x, 1, 2, 5, 6, 7, 8);
        return x;
    }

    private static void holds(HotCorner x, int s, int... due) {
        for (int c = 0; c < due.length; c++) {
            x.cake(due[c], 0, c);
        }
        due("otherwise than told", x.judge(s), -1);
    }

    private static void copies() {
        edge(44, "n numbers of a SHEET, from i on, come to another one's (or its own) place j (as they were): n.", () -> {
            int[][] calls = {
                {0, 0, 1, 0, 4, 1, 2, 3, 4}, {0, 3, 1, 0, 1, 4, 6, 7, 8}, {0, 0, 1, 3, 1, 5, 6, 7, 1}, {0, 1, 1, 2, 2, 5, 6, 2, 3},
                {1, 0, 1, 1, 3, 5, 5, 6, 7}, {1, 1, 1, 0, 3, 6, 7, 8, 8}, {1, 0, 1, 0, 4, 5, 6, 7, 8}, {1, 0, 1, 2, 2, 5, 6, 5, 6},
                {0, 4, 1, 4, 0, 5, 6, 7, 8}, {0, 0, 1, 0, 0, 5, 6, 7, 8}, {1, 4, 1, 0, 0, 5, 6, 7, 8}
            };
            for (int[] one : calls) {
                HotCorner x = twoRows();
                due("copy", x.copy(one[0], one[1], one[2], one[3], one[4]), one[4]);
                holds(x, one[2], one[5], one[6], one[7], one[8]);
            }
            HotCorner x = twoRows();
            x.copy(0, 0, 1, 0, 4);
            holds(x, 0, 1, 2, 3, 4);
            HotCorner y = new HotCorner();
            y.sheet(0, 1, 40);
            y.sheet(3, 1, 40);
            due("all 40", y.copy(0, 0, 3, 0, 40), 40);
            due("all 40 to its own", y.copy(0, 0, 0, 0, 40), 40);
        });
        edge(44, "BAD: SHEETS;", () -> {
            for (int v : new int[] {-1, 4, LOWEST, HIGHEST}) {
                refused("copy(" + v + ", ..)", x -> x.copy(v, 0, 0, 0, 1), -2);
                refused("copy(0, 0, " + v + ", ..)", x -> x.copy(0, 0, v, 0, 1), -2);
                refused("ahead of -11", x -> x.copy(3, 0, v, 0, 1), -2);
                refused("ahead of -12", x -> x.copy(0, 0, v, 0, -1), -2);
            }
        });
        edge(44, "-11;", () -> {
            refused("from a missing one", x -> x.copy(3, 0, 0, 0, 1), -11);
            refused("to a missing one", x -> x.copy(0, 0, 3, 0, 1), -11);
            refused("both the same missing one", x -> x.copy(3, 0, 3, 0, 0), -11);
            refused("ahead of -12", x -> x.copy(3, 99, 0, -1, -1), -11);
        });
        edge(44, "-13: unlike sorts;", () -> {
            for (int s = 0; s < 3; s++) {
                for (int other = 0; other < 3; other++) {
                    int from = s;
                    int to = other;
                    if (from != to) {
                        refused("from " + from + " to " + to, x -> x.copy(from, 0, to, 0, 1), -13);
                        refused("none, too", x -> x.copy(from, 0, to, 0, 0), -13);
                        refused("ahead of -12", x -> x.copy(from, 99, to, -1, -1), -13);
                    }
                }
            }
        });
        edge(44, "-12 (n below 0, too; with n 0, too, if i or j is above how many there are).", () -> {
            Change like = x -> x.sheet(3, 2, 4);
            int[][] outside = {
                {0, 0, -1}, {6, 4, -1}, {-1, 0, 1}, {0, -1, 1}, {6, 0, 1}, {0, 4, 1}, {3, 0, 4}, {0, 1, 4}, {0, 0, 5}, {2, 0, 5},
                {7, 0, 0}, {0, 5, 0}, {7, 5, 0}, {-1, 0, 0}, {0, -1, 0}, {HIGHEST, 0, 1}, {0, HIGHEST, 1}, {HIGHEST, HIGHEST, HIGHEST},
                {1, 1, HIGHEST}, {LOWEST, 0, 1}, {0, LOWEST, 1}, {0, 0, LOWEST}, {LOWEST, LOWEST, LOWEST}, {2, 2, LOWEST}, {HIGHEST, 0, 0}
            };
            for (int[] one : outside) {
                refused(like, "copy(0, " + one[0] + ", 3, " + one[1] + ", " + one[2] + ")", x -> x.copy(0, one[0], 3, one[1], one[2]), -12);
            }
            refused("its own, too far", x -> x.copy(0, 0, 0, 1, 6), -12);
            refused("its own, n 0", x -> x.copy(0, 7, 0, 0, 0), -12);
            refused(like, "n 0 at both ends", x -> x.copy(0, 6, 3, 4, 0), 0);
            refused(x -> x.sheet(3, 2, 0), "n 0 of none", x -> x.copy(0, 0, 3, 0, 0), 0);
        });
    }

    private static void cakesBySheet() {
        edge(45, "CAKES by a SHEET of a sort: from a place on, three by three (as of cake()), n of them (0 .. 8): how many came (others are left out).", () -> {
            HotCorner x = new HotCorner();
            x.sheet(0, 1, 25);
            for (int k = 0; k < 8; k++) {
                x.cell(0, 3 * k + 1, 10 * k + k);
                x.cell(0, 3 * k + 2, 100 + k);
                x.cell(0, 3 * k + 3, 15 - k);
            }
            x.cell(0, 16, 60);
            x.image();
            due("none", x.cakesBy(0, 1, 1, 0), 0);
            due("none, at the end", x.cakesBy(0, 1, 25, 0), 0);
            due("8, but KINDS 6 and 7, and what is 60", x.cakesBy(0, 1, 1, 8), 5);
            for (int c = 0; c < 5; c++) {
                due("kind", x.told(c, 0), c);
                due("more", x.told(c, 1), c);
                due("wish", x.told(c, 2), 100 + c);
                due("place", x.told(c, 3), 15 - c);
            }
            due("their places are not free", x.cakesBy(0, 1, 1, 5), 0);
            x.back();
            due("the first alone", x.cakesBy(0, 1, 1, 1), 1);
            due("the first is left out", x.cakesBy(0, 1, 1, 2), 1);
            x.back();
            x.cell(0, 2, 1000);
            x.cell(0, 6, 16);
            x.cell(0, 7, -1);
            due("WISH, PLACE, KIND are left out", x.cakesBy(0, 1, 1, 5), 2);
            due("the first that came", x.told(0, 0), 3);
            x.back();
            for (int k = 0; k < 8; k++) {
                x.cell(0, 3 * k, 0);
                x.cell(0, 3 * k + 1, 0);
                x.cell(0, 3 * k + 2, k);
            }
            due("all eight", x.cakesBy(0, 1, 0, 8), 8);
            x.cell(0, 2, 15);
            due("a ninth is left out", x.cakesBy(0, 1, 0, 1), 0);
            due("as they were", x.told(0, 3), 0);
        });
        edge(45, "BAD: SHEET, sort, n;", () -> {
            for (int v : new int[] {-1, 4, LOWEST, HIGHEST}) {
                refused("sheet " + v, x -> x.cakesBy(v, 2, 0, 1), -2);
            }
            for (int v : new int[] {-1, 3, LOWEST, HIGHEST}) {
                refused("sort " + v, x -> x.cakesBy(0, v, 0, 1), -2);
                refused("sort " + v + " of a missing one", x -> x.cakesBy(3, v, 0, 1), -2);
            }
            for (int v : new int[] {-1, 9, LOWEST, HIGHEST}) {
                refused("n " + v, x -> x.cakesBy(0, 2, 0, v), -2);
                refused("n " + v + " of a missing one", x -> x.cakesBy(3, 2, 0, v), -2);
                refused("n " + v + " of another sort", x -> x.cakesBy(0, 1, 0, v), -2);
            }
        });
        edge(45, "-11;", () -> {
            for (int sort = 0; sort < 3; sort++) {
                int of = sort;
                refused("missing", x -> x.cakesBy(3, of, 0, 1), -11);
                refused("missing, n 0", x -> x.cakesBy(3, of, 0, 0), -11);
                refused("missing, outside", x -> x.cakesBy(3, of, -1, 8), -11);
            }
        });
        edge(45, "-13;", () -> {
            int[] sorts = {2, 1, 0};
            for (int s = 0; s < 3; s++) {
                for (int sort = 0; sort < 3; sort++) {
                    int of = s;
                    int by = sort;
                    if (by != sorts[of]) {
                        refused("sheet " + of + " of sort " + by, x -> x.cakesBy(of, by, 0, 1), -13);
                        refused("n 0, too", x -> x.cakesBy(of, by, 0, 0), -13);
                        refused("outside, too", x -> x.cakesBy(of, by, -1, 8), -13);
                    }
                }
            }
        });
        edge(45, "-12: what stood ahead came.", () -> {
            int[][] outside = {{-1, 1}, {4, 1}, {5, 1}, {6, 1}, {40, 1}, {LOWEST, 1}, {HIGHEST, 1}, {HIGHEST, 8}, {LOWEST, 8}, {-3, 2}, {HIGHEST - 2, 8}};
            for (int[] one : outside) {
                refused("from " + one[0] + ", " + one[1], x -> x.cakesBy(0, 2, one[0], one[1]), -12);
            }
            refused(x -> x.sheet(3, 1, 0), "of none", x -> x.cakesBy(3, 1, 0, 1), -12);
            HotCorner x = rich();
            due("two of three", x.cakesBy(0, 2, 0, 3), -12);
            due("two came", x.count(0), 5);
            due("the first", x.told(3, 3), 3);
            due("the second", x.told(4, 3), 11);
            HotCorner y = rich();
            due("one of two", y.cakesBy(0, 2, 3, 2), -12);
            due("one came", y.count(0), 4);
            due("that", y.told(3, 2), 15);
            HotCorner z = rich();
            row(z, 3, 2, 60, 0, 0, 0, 0, 0, 0, 0);
            due("of two one is none, then outside", z.cakesBy(3, 2, 0, 3), -12);
            due("one came", z.count(0), 4);
            HotCorner w = rich();
            fullOfCakes(w);
            due("full, and outside", w.cakesBy(0, 2, 0, 8), -12);
            due("eight as they were", w.count(0), 8);
        });
    }

    private static void takings() {
        edge(46, "What lies at place i: 0 .. 15 what is on a PLACE of THE TIN, 16 .. 31 SPOTS, taken for 0 .. 5 a CAKE of that KIND (also of one that is one): its number; 6 a SPOT: how HOT.", () -> {
            // of each kind which kinds it is
            int[] is = {1, 1 + 2, 1 + 4, 1 + 2 + 8, 1 + 4 + 16, 1 + 32};
            for (int kind = 0; kind < 6; kind++) {
                HotCorner x = new HotCorner();
                x.cake(0, 0, 7);
                x.cake(10 * kind + 9, 0, 0);
                x.cake(10 * kind, 0, 15);
                for (int as = 0; as < 6; as++) {
                    boolean so = (is[kind] >> as & 1) == 1;
                    due("kind " + kind + " for " + as, x.taken(0, as), so ? 1 : -13);
                    due("kind " + kind + " for " + as, x.taken(15, as), so ? 2 : -13);
                }
                x.move(1, 3);
                due("where it came", x.taken(3, kind), 1);
            }
            HotCorner x = new HotCorner();
            x.set(0, 0, 0);
            x.set(0, 15, 99);
            x.set(2, 0, 1);
            due("the first spot", x.taken(16, 6), 0);
            due("the last spot", x.taken(31, 6), 99);
            due("another", x.taken(17, 6), 10);
        });
        edge(46, "BAD: kind;", () -> {
            for (int kind : new int[] {-1, 7, LOWEST, HIGHEST}) {
                refused("taken(4, " + kind + ")", x -> x.taken(4, kind), -2);
                refused("ahead of -12", x -> x.taken(32, kind), -2);
                refused("ahead of -11", x -> x.taken(0, kind), -2);
            }
        });
        edge(46, "-12: i;", () -> {
            for (int i : new int[] {-1, 32, LOWEST, HIGHEST}) {
                refused("taken(" + i + ", 0)", x -> x.taken(i, 0), -12);
                refused("taken(" + i + ", 6)", x -> x.taken(i, 6), -12);
            }
        });
        edge(46, "-11: nothing lies there;", () -> {
            for (int i : new int[] {0, 3, 5, 15}) {
                for (int kind = 0; kind <= 6; kind++) {
                    int as = kind;
                    refused("taken(" + i + ", " + as + ")", x -> x.taken(i, as), -11);
                }
            }
        });
        edge(46, "-13.", () -> {
            refused("a CAKE for a SPOT", x -> x.taken(4, 6), -13);
            refused("a THICK for a FROZEN", x -> x.taken(4, 3), -13);
            refused("a SUGARED for a THICK", x -> x.taken(6, 1), -13);
            for (int kind = 0; kind < 6; kind++) {
                int as = kind;
                refused("the first SPOT for " + as, x -> x.taken(16, as), -13);
                refused("the last SPOT for " + as, x -> x.taken(31, as), -13);
                refused("a SPOT below a CAKE for " + as, x -> x.taken(20, as), -13);
            }
        });
    }
}
