import java.lang.reflect.Constructor;
import java.lang.reflect.Field;
import java.lang.reflect.Method;
import java.lang.reflect.Modifier;
import java.util.Arrays;
import java.util.TreeSet;

/** Each promise with ordinary inputs, the edges that the document names, and wrong inputs; worked out by hand. */
public final class PromiseTest {
    private static int wrong = 0;
    private static String of = "";

    private static void due(String call, long got, long want) {
        if (got != want) {
            wrong++;
            System.out.println(of + ": " + call + " answered " + got + ", due is " + want);
        }
    }

    public static void main(String[] args) {
        face();
        newObjectAndCount();
        setAndHot();
        spots();
        feeding();
        texts();
        faults();
        nesting();
        forcing();
        sums();
        askingNames();
        askingWrongly();
        cakes();
        moving();
        telling();
        opening();
        kindsBake();
        browned();
        turning();
        cooling();
        namesInBaking();
        ending();
        eightCakes();
        offness();
        whenToTurn();
        twiceTurned();
        untilWhen();
        outAndSingly();
        soonEnough();
        fewEnough();
        fanAndCost();
        laying();
        swapping();
        lying();
        judging();
        judgedKinds();
        judgedHeats();
        judgedTurns();
        judgedLaws();
        filming();
        drawing();
        images();
        sheets();
        cells();
        copies();
        cakesBySheet();
        takings();
        endless();
        System.out.println(wrong == 0 ? "every promise is kept" : wrong + " answers are not as due");
        if (wrong != 0) {
            System.exit(1);
        }
    }

    // ---- helpers

    private static void feed(HotCorner x, String text) {
        for (int i = 0; i < text.length(); i += 5) {
            int[] b = new int[5];
            int n = Math.min(5, text.length() - i);
            for (int k = 0; k < n; k++) {
                b[k] = text.charAt(i + k);
            }
            x.feed(n, b[0], b[1], b[2], b[3], b[4]);
        }
    }

    private static int read(HotCorner x, String text) {
        feed(x, text);
        return x.text();
    }

    private static HotCorner by(String text) {
        HotCorner x = new HotCorner();
        int t = read(x, text);
        due("text of '" + text + "'", t, 1);
        due("force(1)", x.force(1), 0);
        return x;
    }

    private static void heat(HotCorner x, int... spotAndHot) {
        for (int i = 0; i + 1 < spotAndHot.length; i += 2) {
            x.set(0, spotAndHot[i], spotAndHot[i + 1]);
        }
    }

    private static void row(HotCorner x, int s, int sort, int... v) {
        x.sheet(s, sort, v.length);
        for (int i = 0; i < v.length; i++) {
            x.cell(s, i, v[i]);
        }
    }

    /** Gives what the cells of a sheet are, by laying cakes by it: only for sheets of three numbers that make a cake. */
    private static String cakeBy(HotCorner x, int s, int sort, int at) {
        x.image();
        int came = x.cakesBy(s, sort, at, 1);
        int c = x.count(0) - 1;
        String told = came == 1 ? (10 * x.told(c, 0) + x.told(c, 1)) + " " + x.told(c, 2) + " " + x.told(c, 3) : "" + came;
        x.back();
        return told;
    }

    private static void same(String what, String got, String want) {
        if (!got.equals(want)) {
            wrong++;
            System.out.println(of + ": " + what + " is '" + got + "', due is '" + want + "'");
        }
    }

    // ---- the face

    private static void face() {
        of = "face";
        String told = "count/1 set/3 hot/1 spot/2 feed/6 text/0 force/1 asks/4 cake/3 move/2 told/2 open/2 opening/2 shut/0"
            + " at/2 end/1 off/2 when/2 twice/1 until/1 out/2 singly/0 soon/2 few/1 fan/0 cost/0 lay/2 swap/1 which/1"
            + " judge/1 how/1 kinds/3 heats/3 turned/1 laws/1 film/2 drawn/2 odds/4 image/0 back/0 sheet/3 cell/3 copy/5"
            + " cakesBy/4 taken/2";
        TreeSet<String> due = new TreeSet<>(Arrays.asList(told.split(" ")));
        TreeSet<String> names = new TreeSet<>();
        for (String one : due) {
            names.add(one.substring(0, one.indexOf('/')));
        }
        TreeSet<String> is = new TreeSet<>();
        for (Method m : HotCorner.class.getDeclaredMethods()) {
            if (Modifier.isPrivate(m.getModifiers())) {
                due("private " + m.getName() + " bears a public name", names.contains(m.getName()) ? 1 : 0, 0);
                continue;
            }
            is.add(m.getName() + "/" + m.getParameterCount());
            boolean isLong = m.getName().equals("turned") || m.getName().equals("odds");
            due(m.getName() + " answers an int or a long", m.getReturnType() == (isLong ? long.class : int.class) ? 1 : 0, 1);
            due(m.getName() + " is public", Modifier.isPublic(m.getModifiers()) ? 1 : 0, 1);
        }
        same("the face", is.toString(), due.toString());
        TreeSet<String> fields = new TreeSet<>();
        for (Field f : HotCorner.class.getDeclaredFields()) {
            if (!Modifier.isPrivate(f.getModifiers())) {
                fields.add(f.getName());
            }
        }
        same("the constants", fields.toString(), "[BAD, FULL, NO, NONE, STATE]");
        Constructor<?>[] constructors = HotCorner.class.getDeclaredConstructors();
        due("constructors", constructors.length, 1);
        due("public final", HotCorner.class.getModifiers() & (Modifier.PUBLIC | Modifier.FINAL), Modifier.PUBLIC | Modifier.FINAL);
        due("NONE", HotCorner.NONE, -1);
        due("BAD", HotCorner.BAD, -2);
        due("STATE", HotCorner.STATE, -3);
        due("FULL", HotCorner.FULL, -4);
        due("NO", HotCorner.NO, -(1L << 62));
    }

    // ---- the oven, the law

    private static void newObjectAndCount() {
        of = "promises 1, 2";
        HotCorner x = new HotCorner();
        int[] due = {0, 20, 0, 0, 1, 0, 0};
        for (int what = 0; what < 7; what++) {
            due("new count(" + what + ")", x.count(what), due[what]);
        }
        for (int spot = 0; spot < 16; spot++) {
            due("new hot(" + spot + ")", x.hot(spot), 10);
        }
        due("count(-1)", x.count(-1), -2);
        due("count(7)", x.count(7), -2);
        x.cake(0, 0, 0);
        x.cake(0, 0, 1);
        x.set(1, 0, 33);
        x.set(2, 0, 3);
        x.open(1, 1);
        x.open(2, 1);
        x.open(3, 1);
        x.force(read(x, "browns 1;cools 1;minds 1;"));
        x.feed(4, 1, 2, 3, 4, 5);
        int[] then = {2, 33, 3, 3, 2, 1, 4};
        for (int what = 0; what < 7; what++) {
            due("count(" + what + ")", x.count(what), then[what]);
        }
    }

    private static void setAndHot() {
        of = "promises 3, 4";
        HotCorner x = new HotCorner();
        due("set(0, 0, 99)", x.set(0, 0, 99), 10);
        due("set(0, 0, 0)", x.set(0, 0, 0), 99);
        due("set(0, 15, 42)", x.set(0, 15, 42), 10);
        due("hot(0)", x.hot(0), 0);
        due("hot(15)", x.hot(15), 42);
        due("hot(1)", x.hot(1), 10);
        due("hot(-1)", x.hot(-1), -2);
        due("hot(16)", x.hot(16), -2);
        due("set(1, 99, 1)", x.set(1, 99, 1), 20);
        due("set(1, -99, 40)", x.set(1, -99, 40), 1);
        due("set(2, 99, 3)", x.set(2, 99, 3), 0);
        due("set(2, -99, 0)", x.set(2, -99, 0), 3);
        due("set(-1, -1, -1)", x.set(-1, -1, -1), -5);
        due("set(3, 0, 0)", x.set(3, 0, 0), -5);
        due("set(0, 16, 100)", x.set(0, 16, 100), -6);
        due("set(0, -1, 1)", x.set(0, -1, 1), -6);
        due("set(0, 3, 100)", x.set(0, 3, 100), -7);
        due("set(0, 3, -1)", x.set(0, 3, -1), -7);
        due("set(1, 0, 0)", x.set(1, 0, 0), -7);
        due("set(1, 0, 41)", x.set(1, 0, 41), -7);
        due("set(2, 0, -1)", x.set(2, 0, -1), -7);
        due("set(2, 0, 4)", x.set(2, 0, 4), -7);
        due("hot(3) still", x.hot(3), 10);
        due("TIME still", x.count(1), 40);
        due("LIES still", x.count(2), 0);
    }

    private static void spots() {
        of = "promise 5";
        HotCorner x = new HotCorner();
        int[][] due = {
            {0, 1, 2, 3, 4, 5, 6, 7, 8, 9, 10, 11, 12, 13, 14, 15},
            {3, 7, 11, 15, 2, 6, 10, 14, 1, 5, 9, 13, 0, 4, 8, 12},
            {15, 14, 13, 12, 11, 10, 9, 8, 7, 6, 5, 4, 3, 2, 1, 0},
            {12, 8, 4, 0, 13, 9, 5, 1, 14, 10, 6, 2, 15, 11, 7, 3}
        };
        for (int quarters = 0; quarters < 4; quarters++) {
            for (int place = 0; place < 16; place++) {
                due("spot(" + place + ", " + quarters + ")", x.spot(place, quarters), due[quarters][place]);
            }
        }
        x.set(2, 0, 1);
        due("spot(0, 0), however the tin lies", x.spot(0, 0), 0);
        due("spot(-1, 0)", x.spot(-1, 0), -2);
        due("spot(16, 0)", x.spot(16, 0), -2);
        due("spot(0, -1)", x.spot(0, -1), -2);
        due("spot(0, 4)", x.spot(0, 4), -2);
    }

    private static void feeding() {
        of = "promise 6";
        HotCorner x = new HotCorner();
        due("feed 1", x.feed(1, 0, 255, 0, 255, 0), 1);
        due("feed 5", x.feed(5, 0, 255, 0, 255, 0), 6);
        due("feed 0", x.feed(0, 0, 0, 0, 0, 0), -2);
        due("feed 6", x.feed(6, 0, 0, 0, 0, 0), -2);
        for (int k = 0; k < 5; k++) {
            due("feed 256 at " + k, x.feed(1, k == 0 ? 256 : 0, k == 1 ? 256 : 0, k == 2 ? 256 : 0, k == 3 ? 256 : 0, k == 4 ? 256 : 0), -2);
            due("feed -1 at " + k, x.feed(1, k == 0 ? -1 : 0, k == 1 ? -1 : 0, k == 2 ? -1 : 0, k == 3 ? -1 : 0, k == 4 ? -1 : 0), -2);
        }
        due("count(6)", x.count(6), 6);
        for (int i = 0; i < 30; i++) {
            x.feed(5, 1, 1, 1, 1, 1);
        }
        due("feed 5 into 4", x.feed(5, 1, 1, 1, 1, 1), -4);
        due("feed 5 wrong ones into 4", x.feed(5, 1, 1, 1, 1, 999), -2);
        due("count(6)", x.count(6), 156);
        due("feed 4 into 4", x.feed(4, 1, 1, 1, 1, 1), 160);
        due("feed 1 into 0", x.feed(1, 1, 1, 1, 1, 1), -4);
        due("text()", x.text(), -100);
        due("count(6)", x.count(6), 0);
        HotCorner y = new HotCorner();
        y.feed(5, 'b', 'r', 'o', 'w', 'n');
        y.feed(2, 's', 'A', 'n', 'n', 'n');
        due("bytes in their order", y.text(), -106);
    }

    private static void texts() {
        of = "promise 7";
        HotCorner x = new HotCorner();
        due("text 1", read(x, "browns 1;cools 2;minds 3;"), 1);
        due("tape", x.count(6), 0);
        due("law", x.count(5), 0);
        due("text 2", read(x, " \n browns\n1234 ;\ncools  heat ; minds since;\n\n "), 2);
        due("text 3", read(x, "browns2;cools 2or 3;minds(1);"), 3);
        StringBuilder whole = new StringBuilder("browns heat;cools minute;minds openings;");
        while (whole.length() < 160) {
            whole.insert(0, ' ');
        }
        due("text 4", read(x, whole.toString()), 4);
        due("a faulty one", read(x, "browns;"), -106);
        due("tape", x.count(6), 0);
        due("text 5", read(x, "browns more=brown;cools not 1<2;minds 1 and 2 or 3;"), 5);
        due("count(4)", x.count(4), 6);
        due("text 6", read(x, "browns 1;cools 2;minds 3;"), -4);
        due("tape stays", x.count(6), 25);
        x.feed(1, 'x', 0, 0, 0, 0);
        due("full ahead of the fault", x.text(), -4);
        due("tape stays", x.count(6), 26);
        HotCorner y = new HotCorner();
        for (int t = 1; t < 6; t++) {
            read(y, "browns 1;cools 1;minds 1;");
        }
        due("full, and nothing on the tape", y.text(), -4);
    }

    private static void fault(String text, int place) {
        HotCorner x = new HotCorner();
        due("text '" + text + "'", read(x, text), -100 - place);
        due("texts", x.count(4), 1);
        due("tape", x.count(6), 0);
    }

    private static void faults() {
        of = "promise 7, faults";
        fault("", 0);
        fault("  \n", 3);
        fault(" \nbrowns", 8);
        fault("brown 1", 0);
        fault(" cools 1;", 1);
        fault("brownsheat;", 0);
        fault("browns ;", 7);
        fault("browns 1 cools", 9);
        fault("browns 1; minds 1;", 10);
        fault("browns 1;cools 2;minds 3", 24);
        fault("browns 1;cools 2;minds 3;x", 25);
        fault("browns 1;cools 2;minds 3; ;", 26);
        fault("browns 1;cools 2;minds 3; \t", 26);
        fault("browns 1;cools 2;minds 3;browns 1;", 25);
        fault("browns 12345;", 7);
        fault("browns 00000;", 7);
        fault("browns 1234;", 12);
        fault("browns 12ab;", 9);
        fault("browns heats;", 7);
        fault("browns cools;", 7);
        fault("browns and;", 7);
        fault("browns A;", 7);
        fault("browns 1\t;", 8);
        fault("browns 1" + (char) 0 + ";", 8);
        fault("browns " + (char) 233 + ";", 7);
        fault("browns 1 2;", 9);
        fault("browns 1 heat;", 9);
        fault("browns 1<2<3;", 10);
        fault("browns 1=2=3;", 10);
        fault("browns 1<;", 9);
        fault("browns 1 + not 2;", 11);
        fault("browns 1 < not 2;", 11);
        fault("browns -not 2;", 8);
        fault("browns +1;", 7);
        fault("browns *1;", 7);
        fault("browns 1*;", 9);
        fault("browns 1+;", 9);
        fault("browns 1 or;", 11);
        fault("browns 1 and or;", 13);
        fault("browns not;", 10);
        fault("browns (1;", 9);
        fault("browns 1);", 8);
        fault("browns ();", 8);
        fault("browns 1 ? A", 9);
        fault("browns 1 ", 9);
        fault("browns (", 8);
        fault("browns -abc 1;", 8);
        fault("browns not abc 1;", 11);
        fault("browns -?1;", 8);
        fault("browns -12345 1;", 8);
        fault("browns xeat;", 7);
        fault("browns heax;", 7);
    }

    private static void nesting() {
        of = "promise 7, nesting";
        fault("browns ((((((1))))));", 12);
        fault("browns ------1;", 12);
        fault("browns not not not not not not 1;", 27);
        fault("browns not (-(not -1", 18);
        fault("browns not (-(not (1", 18);
        fault("browns ( - not 1 ) ;", 11);
        fault("browns not 1+-----1;", 17);
        fault("browns (((((not 1", 12);
        fault("browns (((((-1", 12);
        fault("browns (((((1+(2", 14);
        HotCorner x = new HotCorner();
        due("5 of (", read(x, "browns (((((1)))));cools -----1;minds not not not not not 1;"), 1);
        due("and anew", read(x, "browns (((((1)))))*(2)--3 and not not not not not 0;cools not(-(not 1))+----1;minds 1;"), 2);
        due("a - that isn't ahead of a ONE", read(x, "browns (((((1-2-3)))))-(((((4)))));cools (((((1)+1)+1)+1)+1);minds 0;"), 3);
        due("not ends with its NOT", read(x, "browns not 1 and not 1 and not 1 and not 1 and not 1 and not 1 or not 1;cools 0;minds 1;"), 4);
    }

    private static void forcing() {
        of = "promise 8";
        HotCorner x = new HotCorner();
        due("force(1)", x.force(1), -2);
        due("force(-1)", x.force(-1), -2);
        due("force(0)", x.force(0), 0);
        read(x, "browns 7;cools 0;minds 1;");
        x.cake(0, 0, 0);
        due("at(0, 2)", x.at(0, 2), 40);
        due("force(1)", x.force(1), 0);
        due("count(5)", x.count(5), 1);
        due("at(0, 2)", x.at(0, 2), 14);
        due("force(2)", x.force(2), -2);
        due("force(0)", x.force(0), 1);
        due("at(0, 2)", x.at(0, 2), 40);
    }

    private static void says(String e, int want) {
        HotCorner x = by("browns " + e + ";cools 7;minds 8;");
        x.cake(3, 0, 0);
        x.open(0, 0);
        x.open(1, 0);
        due(e, x.asks(0, 1234, 56, 78), want);
        due(e + ", cools", x.asks(1, 1234, 56, 78), 7);
        due(e + ", minds", x.asks(2, 1234, 56, 78), 8);
    }

    private static void sums() {
        of = "promise 9, what an E is";
        says("1+2*3", 7);
        says("(1+2)*3", 9);
        says("9-2-3", 4);
        says("9-(2-3)", 10);
        says("2*3*4", 24);
        says("-3+5", 2);
        says("2*-3+10", 4);
        says("- - 5", 5);
        says("9--5", 14);
        says("2<3", 1);
        says("3<3", 0);
        says("-1<0", 1);
        says("3=3", 1);
        says("3=4", 0);
        says("1+1=2", 1);
        says("not 0", 1);
        says("not 7", 0);
        says("not not 7", 1);
        says("not 1=2", 1);
        says("not 2+1<3", 1);
        says("5 or 0", 1);
        says("0 or 5", 1);
        says("0 or 0", 0);
        says("5 and 2", 1);
        says("5 and 0", 0);
        says("0 and 5", 0);
        says("-1 and 1", 1);
        says("4 and 2", 1);
        says("1 or 0 and 0", 1);
        says("1 or 1 and 0", 1);
        says("not 1 or 1", 1);
        says("not 0 and 0", 0);
        says("5", 5);
        says("0099", 99);
        says("100", 99);
        says("99*99", 99);
        says("0-1", 0);
        says("9999*9999*22<0", 1);
        says("9999*9999*43", 99);
        says("9999*9999*43=4173*1000-253", 1);
        says("heat", 12);
        says("minute", 34);
        says("brown", 56);
        says("more", 3);
        says("since", 78);
        says("openings", 2);
    }

    private static void askingNames() {
        of = "promise 9";
        HotCorner x = by("browns brown-900;cools heat+minute+since;minds brown+more+openings;");
        x.cake(9, 0, 0);
        x.cake(5, 0, 1);
        due("brown 999", x.asks(0, 0, 999, 0), 99);
        due("brown 950", x.asks(0, 0, 950, 0), 50);
        due("cools", x.asks(1, 139, 0, 2), 42);
        due("cools", x.asks(1, 9900, 0, 0), 99);
        due("minds", x.asks(2, 9939, 60, 99), 69);
        due("minds of the other", x.asks(2, 9939, 60, 199), 65);
        HotCorner w = by("browns more*10+(since=98)+2*(since=0);cools 0;minds 0;");
        for (int c = 0; c < 8; c++) {
            w.cake(c, 0, c);
        }
        due("of the last cake", w.asks(0, 0, 0, 700), 72);
        due("of the last cake", w.asks(0, 0, 0, 798), 71);
        due("of the last cake", w.asks(0, 0, 0, 799), 70);
        due("of cake 8", w.asks(0, 0, 0, 800), -2);
        x.open(39, 0);
        due("minds with an opening", x.asks(2, 9939, 60, 199), 66);
        due("in the first law", new HotCorner().count(5), 0);
        HotCorner y = new HotCorner();
        y.cake(0, 0, 0);
        due("browns", y.asks(0, 3000, 0, 0), 60);
        due("browns, the bound", y.asks(0, 6000, 0, 0), 99);
        due("cools", y.asks(1, 0, 0, 2), 5);
        due("cools", y.asks(1, 0, 0, 3), 0);
        due("minds", y.asks(2, 0, 0, 0), 1);
    }

    private static void askingWrongly() {
        of = "promise 9, wrong";
        HotCorner x = new HotCorner();
        due("no cake", x.asks(0, 0, 0, 0), -2);
        x.cake(0, 0, 0);
        due("all least", x.asks(0, 0, 0, 0), 0);
        due("all most", x.asks(2, 9939, 999, 99), 1);
        due("part", x.asks(-1, 0, 0, 0), -2);
        due("part", x.asks(3, 0, 0, 0), -2);
        due("heatMinute", x.asks(0, -1, 0, 0), -2);
        due("heatMinute", x.asks(0, -100, 0, 0), -2);
        due("heatMinute", x.asks(0, 40, 0, 0), -2);
        due("heatMinute", x.asks(0, 9940, 0, 0), -2);
        due("heatMinute", x.asks(0, 10000, 0, 0), -2);
        due("brown", x.asks(0, 0, -1, 0), -2);
        due("brown", x.asks(0, 0, 1000, 0), -2);
        due("cSince", x.asks(0, 0, 0, -1), -2);
        due("cSince", x.asks(0, 0, 0, 100), -2);
    }

    // ---- cakes, the plan

    private static void cakes() {
        of = "promise 10";
        HotCorner x = new HotCorner();
        due("cake", x.cake(0, 0, 0), 0);
        due("cake", x.cake(59, 999, 15), 1);
        due("kindMore", x.cake(-1, 0, 1), -2);
        due("kindMore", x.cake(60, 0, 1), -2);
        due("wish", x.cake(0, -1, 1), -2);
        due("wish", x.cake(0, 1000, 1), -2);
        due("place", x.cake(0, 0, -1), -2);
        due("place", x.cake(0, 0, 16), -2);
        due("another one there", x.cake(0, 0, 15), -3);
        due("wrong and there", x.cake(60, 0, 15), -2);
        for (int c = 2; c < 8; c++) {
            due("cake", x.cake(c, c, c), c);
        }
        due("full", x.cake(0, 0, 14), -4);
        due("full, and another one there", x.cake(0, 0, 0), -3);
        due("full, and wrong", x.cake(0, 0, 16), -2);
        due("count(0)", x.count(0), 8);
    }

    private static void moving() {
        of = "promise 11";
        HotCorner x = new HotCorner();
        due("move(0, 0)", x.move(0, 0), -5);
        x.cake(0, 0, 3);
        x.cake(0, 0, 4);
        due("move(0, 15)", x.move(0, 15), 3);
        due("told", x.told(0, 3), 15);
        due("its own", x.move(0, 15), 15);
        due("another's", x.move(0, 4), -3);
        due("move(2, 99)", x.move(2, 99), -5);
        due("move(-1, 0)", x.move(-1, 0), -5);
        due("move(0, 16)", x.move(0, 16), -7);
        due("move(0, -1)", x.move(0, -1), -7);
        due("told", x.told(0, 3), 15);
        due("where it was is free", x.move(1, 3), 4);
        due("move(1, 0)", x.move(1, 0), 3);
    }

    private static void telling() {
        of = "promise 12";
        HotCorner x = new HotCorner();
        due("told(0, 0)", x.told(0, 0), -5);
        int[] begins = {0, 3, 0, 8, 0, 0};
        for (int kind = 0; kind < 6; kind++) {
            x.cake(10 * kind + 9, 100 + kind, kind);
            due("kind", x.told(kind, 0), kind);
            due("more", x.told(kind, 1), 9);
            due("wish", x.told(kind, 2), 100 + kind);
            due("place", x.told(kind, 3), kind);
            due("begins", x.told(kind, 4), begins[kind]);
        }
        x.cake(18, 0, 8);
        x.cake(32, 0, 9);
        due("THICK 8 begins", x.told(6, 4), 2);
        due("FROZEN 2 begins", x.told(7, 4), 2);
        due("told(8, 9)", x.told(8, 9), -5);
        due("told(-1, 0)", x.told(-1, 0), -5);
        due("told(0, 5)", x.told(0, 5), -7);
        due("told(0, -1)", x.told(0, -1), -7);
    }

    private static void opening() {
        of = "promises 13, 14, 15";
        HotCorner x = new HotCorner();
        due("opening(0, 0)", x.opening(0, 0), -5);
        due("open(0, 3)", x.open(0, 3), 1);
        due("open(0, 1)", x.open(0, 1), -3);
        due("open(1, 0)", x.open(1, 0), 2);
        due("open(-1, 0)", x.open(-1, 0), -2);
        due("open(40, 0)", x.open(40, 0), -2);
        due("open(2, -1)", x.open(2, -1), -2);
        due("open(2, 4)", x.open(2, 4), -2);
        due("open(5, 2)", x.open(5, 2), 3);
        due("open(4, 2)", x.open(4, 2), -3);
        due("open(20, 2)", x.open(20, 2), 4);
        due("open(38, 1)", x.open(38, 1), 5);
        due("open(39, 2)", x.open(39, 2), 6);
        due("open(39, 2), full", x.open(39, 2), -3);
        due("open(40, 2), full", x.open(40, 2), -2);
        due("opening(0, 0)", x.opening(0, 0), 0);
        due("opening(0, 1)", x.opening(0, 1), 3);
        due("opening(5, 0)", x.opening(5, 0), 39);
        due("opening(4, 1)", x.opening(4, 1), 1);
        due("opening(6, 9)", x.opening(6, 9), -5);
        due("opening(-1, 0)", x.opening(-1, 0), -5);
        due("opening(0, 2)", x.opening(0, 2), -7);
        due("opening(0, -1)", x.opening(0, -1), -7);
        due("shut()", x.shut(), 6);
        due("shut()", x.shut(), 0);
        due("count(3)", x.count(3), 0);
        due("opening(0, 0)", x.opening(0, 0), -5);
        for (int minute = 0; minute < 6; minute++) {
            due("open(" + minute + ", 1)", x.open(minute, 1), minute + 1);
        }
        due("open(6, 1)", x.open(6, 1), -4);
    }

    // ---- baking

    private static void kindsBake() {
        of = "promise 16, kinds";
        HotCorner x = by("browns 10;cools 0;minds 1;");
        x.cake(9, 0, 0);
        x.cake(17, 0, 1);
        x.cake(25, 0, 2);
        x.cake(37, 0, 3);
        x.cake(41, 0, 4);
        x.cake(40, 0, 5);
        x.cake(43, 0, 6);
        x.cake(59, 0, 7);
        int[][] due = {
            {0, 10, 20, 30, 40, 50, 60, 70, 80},
            {0, 0, 0, 6, 12, 18, 24, 30, 36},
            {0, 12, 24, 36, 48, 60, 72, 84, 96},
            {0, 0, 0, 0, 0, 0, 0, 6, 12},
            {0, 10, 20, 30, 40, 70, 100, 130, 160},
            {0, 10, 20, 30, 60, 90, 120, 150, 180},
            {0, 11, 22, 33, 44, 55, 88, 121, 154},
            {0, 10, 20, 30, 40, 50, 60, 70, 80}
        };
        for (int c = 0; c < 8; c++) {
            for (int minutes = 0; minutes < 9; minutes++) {
                due("at(" + c + ", " + minutes + ")", x.at(c, minutes), due[c][minutes]);
            }
        }
    }

    private static void browned() {
        of = "promise 16";
        HotCorner x = by("browns 99;cools 0;minds 1;");
        due("at(0, 0)", x.at(0, 0), -5);
        x.cake(0, 0, 0);
        due("at(0, 10)", x.at(0, 10), 990);
        due("at(0, 11)", x.at(0, 11), 999);
        due("at(0, 20)", x.at(0, 20), 999);
        due("at(0, 21)", x.at(0, 21), -7);
        due("at(0, -1)", x.at(0, -1), -7);
        due("at(1, 99)", x.at(1, 99), -5);
        due("at(-1, 0)", x.at(-1, 0), -5);
        x.set(1, 0, 40);
        due("at(0, 40)", x.at(0, 40), 999);
        HotCorner y = new HotCorner();
        y.cake(0, 0, 0);
        heat(y, 0, 60);
        due("99 at most a minute", y.at(0, 2), 198);
    }

    private static void turning() {
        of = "promise 16, turning";
        HotCorner x = by("browns heat;cools 0;minds 1;");
        heat(x, 0, 1, 3, 20, 15, 40, 12, 60);
        x.cake(0, 0, 0);
        x.open(1, 1);
        x.open(3, 2);
        int[] due = {0, 1, 21, 41, 101, 161};
        for (int minutes = 0; minutes < 6; minutes++) {
            due("at(0, " + minutes + ")", x.at(0, minutes), due[minutes]);
        }
        x.set(2, 0, 1);
        int[] then = {0, 20, 60, 100, 101, 102};
        for (int minutes = 0; minutes < 6; minutes++) {
            due("lying otherwise, at(0, " + minutes + ")", x.at(0, minutes), then[minutes]);
        }
        x.set(1, 0, 3);
        due("end", x.off(0, 0), 100);
        x.shut();
        x.open(0, 3);
        due("an opening at the first minute", x.at(0, 1), 1);
    }

    private static void cooling() {
        of = "promise 16, cooling";
        HotCorner x = by("browns heat;cools minute*10+since;minds 1;");
        heat(x, 0, 1, 3, 20, 15, 40, 12, 60);
        x.cake(0, 0, 0);
        x.open(1, 1);
        x.open(3, 2);
        int[] due = {0, 1, 11, 11, 41, 60};
        for (int minutes = 0; minutes < 6; minutes++) {
            due("at(0, " + minutes + ")", x.at(0, minutes), due[minutes]);
        }
        HotCorner y = by("browns heat+1;cools heat-brown*more;minds 1;");
        y.cake(1, 0, 0);
        y.open(1, 0);
        due("not cooled ahead of the first opening", y.at(0, 1), 11);
        due("cooled by 0 at least", y.at(0, 2), 22);
        y.cake(0, 0, 1);
        due("cooled by all its heat", y.at(1, 4), 14);
        HotCorner z = new HotCorner();
        z.cake(0, 0, 0);
        z.open(2, 0);
        int[] first = {0, 20, 40, 50, 60, 70, 90, 110};
        for (int minutes = 0; minutes < 8; minutes++) {
            due("by the first law, at(0, " + minutes + ")", z.at(0, minutes), first[minutes]);
        }
    }

    private static void namesInBaking() {
        of = "promise 16, names";
        HotCorner x = by("browns since;cools 0;minds 1;");
        x.cake(0, 0, 0);
        due("no opening", x.at(0, 5), 10);
        x.open(2, 0);
        due("an opening", x.at(0, 5), 4);
        HotCorner y = by("browns brown+1;cools 0;minds 1;");
        y.cake(0, 0, 0);
        due("brown", y.at(0, 5), 31);
        HotCorner z = by("browns openings*10+more;cools 0;minds 1;");
        z.cake(7, 0, 0);
        due("more", z.at(0, 2), 14);
        z.open(1, 1);
        z.open(30, 1);
        due("openings, also those that don't come", z.at(0, 2), 54);
        HotCorner w = by("browns minute;cools 0;minds 1;");
        w.cake(0, 0, 0);
        w.cake(30, 0, 1);
        due("minute", w.at(0, 5), 10);
        due("minute, begun later", w.at(1, 5), 4 * 2 / 3 + 3 * 2 / 3 + 2 * 2 / 3);
    }

    private static void ending() {
        of = "promise 17";
        HotCorner x = by("browns heat;cools 0;minds 2;");
        int[] none = {0, 0, -1, -1, 0};
        for (int what = 0; what < 5; what++) {
            due("no cakes, end(" + what + ")", x.end(what), none[what]);
        }
        due("end(-1)", x.end(-1), -2);
        due("end(5)", x.end(5), -2);
        heat(x, 0, 5, 1, 7, 2, 5, 3, 7);
        x.cake(0, 100, 0);
        due("one cake", x.end(1), 0);
        x.cake(0, 140, 1);
        x.cake(0, 102, 2);
        x.cake(50, 3, 3);
        int[] due = {4, 40, 1, 0, 3};
        for (int what = 0; what < 5; what++) {
            due("end(" + what + ")", x.end(what), due[what]);
        }
    }

    private static void offness() {
        of = "promise 18";
        HotCorner x = by("browns 10;cools 0;minds 3;");
        due("off(0, 0)", x.off(0, 0), -5);
        x.cake(0, 150, 0);
        x.cake(0, 250, 1);
        x.cake(10, 100, 2);
        x.cake(49, 500, 3);
        x.cake(49, 999, 4);
        x.cake(50, 200, 5);
        x.cake(50, 201, 6);
        x.cake(30, 200, 7);
        // SUGARED with 9: 14 a minute till above 110 (8 minutes: 112), then 42 a minute: 112 + 12 * 42 = 616
        int[] due = {50, 50, 20, 232, 383, 0, 1, 92};
        for (int c = 0; c < 8; c++) {
            due("off(" + c + ", 0)", x.off(c, 0), due[c]);
            due("off(" + c + ", 1)", x.off(c, 1), 3 * due[c]);
        }
        due("off(8, 9)", x.off(8, 9), -5);
        due("off(-1, 0)", x.off(-1, 0), -5);
        due("off(0, 2)", x.off(0, 2), -7);
        due("off(0, -1)", x.off(0, -1), -7);
        HotCorner y = by("browns 4;cools 0;minds heat+minute+since+brown+more+openings;");
        y.cake(2, 90, 0);
        y.open(1, 1);
        due("what minds is asked", y.off(0, 1), 10 * (80 + 2 + 1));
        y.set(1, 0, 40);
        due("minds 99 at most", y.off(0, 1), 70 * 99);
    }

    private static void eightCakes() {
        of = "eight cakes and six openings";
        HotCorner x = by("browns heat+more;cools openings;minds 1;");
        for (int c = 0; c < 8; c++) {
            x.cake(c, 100, 2 * c);
        }
        for (int k = 0; k < 6; k++) {
            x.open(k, k & 3);
        }
        x.set(1, 0, 10);
        // each minute 10 less 6, and MORE
        for (int c = 0; c < 8; c++) {
            due("at(" + c + ", 10)", x.at(c, 10), 10 * (4 + c));
            due("out(" + c + ", 0)", x.out(c, 0), c == 7 ? 9 : 10);
        }
        due("end(0)", x.end(0), 60 + 50 + 40 + 30 + 20 + 10 + 0 + 10);
        due("end(1)", x.end(1), 70);
        due("end(2)", x.end(2), 7);
        due("end(3)", x.end(3), 0);
        due("end(4)", x.end(4), 1);
        due("when(0, 1)", x.when(0, 1), 70);
        due("twice(1)", x.twice(1), 70);
        due("singly()", x.singly(), 60 + 50 + 40 + 30 + 20 + 10 + 0 + 1);
        due("few(69)", x.few(69), -1);
        due("fan()", x.fan(), 0);
        due("cost()", x.cost(), 220 - (0 + 10 + 20 + 30 + 40 + 50 + 60 + 70));
        due("swap(0)", x.swap(0), -1);
        due("which(0)", x.which(0), 0);
        due("film(2, 10)", x.film(2, 10), 8);
        due("judge(2)", x.judge(2), -1);
        due("how(2)", x.how(2), 15);
        due("kinds(2, 7, 1)", x.kinds(2, 7, 1), 128);
        due("heats(2, 0, 0)", x.heats(2, 0, 0), 1);
        due("laws(2)", x.laws(2), 2);
        due("turned(2)", x.turned(2), 0);
        due("image()", x.image(), 8);
        due("back()", x.back(), 8);
        due("taken(14, 0)", x.taken(14, 0), 7);
        due("lay(7, 1)", x.lay(7, 1), 10);
        due("soon(7, 110)", x.soon(7, 110), 10);
    }

    // ---- when to turn, when to take out

    private static HotCorner unlikeCorners() {
        HotCorner x = by("browns heat;cools 0;minds 1;");
        heat(x, 0, 10, 15, 30, 3, 0, 12, 50);
        x.cake(0, 61, 0);
        x.cake(0, 0, 15);
        x.set(1, 0, 4);
        return x;
    }

    private static void whenToTurn() {
        of = "promise 19";
        HotCorner x = unlikeCorners();
        due("when(0, 0)", x.when(0, 0), 202);
        due("when(0, 1)", x.when(0, 1), 0);
        // BADNESS by quarters 3 from minute m on: the other cake gets 30 * m, the first one 10 * m + 50 * (4 - m)
        due("when(1, 0)", x.when(1, 0), 2);
        due("when(1, 1)", x.when(1, 1), 59 + 40);
        x.open(1, 1);
        x.open(2, 3);
        due("the plan does not matter", x.when(0, 0), 202);
        due("when(-1, 0)", x.when(-1, 0), -2);
        due("when(2, 0)", x.when(2, 0), -2);
        due("when(0, -1)", x.when(0, -1), -2);
        due("when(0, 2)", x.when(0, 2), -2);
        due("the plan is as it was", x.opening(1, 0), 2);
        HotCorner v = new HotCorner();
        v.cake(0, 400, 0);
        due("in the last minute it costs least", v.when(1, 0), 1900);
        due("in the last minute it costs least", v.when(1, 1), 10);
        due("no opening costs nothing", v.end(0), 0);
        HotCorner y = by("browns heat;cools 0;minds 1;");
        heat(y, 0, 1, 3, 20, 15, 40, 12, 60);
        y.cake(0, 61, 0);
        y.set(1, 0, 2);
        due("in the last minute", y.when(1, 0), 103);
        due("in the last minute", y.when(1, 1), 0);
        HotCorner z = by("browns 10-openings;cools 9*since;minds 1;");
        z.cake(0, 27, 0);
        z.set(1, 0, 3);
        due("it is the one opening", z.when(1, 1), 0);
        due("of like ones the first", z.when(1, 0), 0);
    }

    private static void twiceTurned() {
        of = "promise 20";
        HotCorner x = unlikeCorners();
        due("twice(0)", x.twice(0), 2);
        due("twice(1)", x.twice(1), 0);
        x.set(1, 0, 3);
        due("twice(0)", x.twice(0), 1);
        due("twice(1)", x.twice(1), 20);
        x.set(1, 0, 2);
        due("twice(0)", x.twice(0), 1);
        due("twice(1)", x.twice(1), 0);
        x.set(1, 0, 1);
        due("twice(0)", x.twice(0), -1);
        due("twice(1)", x.twice(1), -1);
        due("twice(2)", x.twice(2), -2);
        x.set(1, 0, 3);
        due("twice(-1)", x.twice(-1), -2);
        due("twice(2)", x.twice(2), -2);
        x.force(read(x, "browns heat*(1+(minute=1));cools 0;minds 1;"));
        x.open(0, 1);
        due("twice(0)", x.twice(0), 102);
        due("twice(1)", x.twice(1), 0);
        due("the plan is as it was", x.count(3), 1);
        x.force(read(x, "browns heat*openings;cools 0;minds 1;"));
        due("they are two", x.twice(1), 40);
    }

    private static void untilWhen() {
        of = "promise 21";
        HotCorner x = by("browns 10;cools 0;minds 2;");
        x.cake(0, 100, 0);
        due("until(0)", x.until(0), 10);
        due("until(1)", x.until(1), 0);
        x.cake(0, 205, 1);
        due("until(0)", x.until(0), 10);
        due("until(1)", x.until(1), 210);
        due("until(-1)", x.until(-1), -2);
        due("until(2)", x.until(2), -2);
        due("TIME is as it was", x.count(1), 20);
        HotCorner y = by("browns 10;cools 0;minds 1;");
        y.cake(0, 15, 0);
        due("of like ones the least", y.until(0), 1);
        due("of like ones the least", y.until(1), 5);
        HotCorner z = by("browns 10;cools 0;minds 1;");
        z.cake(0, 999, 0);
        due("40 at most", z.until(0), 40);
        due("40 at most", z.until(1), 599);
        HotCorner v = by("browns 10;cools 0;minds 1;");
        v.cake(0, 0, 0);
        due("1 at least", v.until(0), 1);
        due("1 at least", v.until(1), 10);
        HotCorner w = by("browns heat;cools 99;minds 1;");
        w.cake(0, 999, 0);
        w.open(30, 0);
        w.set(1, 0, 1);
        due("all of the plan, behind TIME too", w.until(0), 30);
        due("all of the plan, behind TIME too", w.until(1), 699);
    }

    private static void outAndSingly() {
        of = "promises 22, 23";
        HotCorner x = by("browns 10;cools 0;minds 2;");
        due("singly()", x.singly(), 0);
        due("out(0, 0)", x.out(0, 0), -5);
        x.cake(0, 50, 0);
        x.cake(0, 15, 1);
        x.cake(0, 0, 2);
        x.cake(0, 999, 3);
        x.cake(50, 30, 4);
        int[] minutes = {5, 1, 0, 20, 3};
        int[] bad = {0, 10, 0, 1598, 0};
        for (int c = 0; c < 5; c++) {
            due("out(" + c + ", 0)", x.out(c, 0), minutes[c]);
            due("out(" + c + ", 1)", x.out(c, 1), bad[c]);
        }
        due("out(5, 9)", x.out(5, 9), -5);
        due("out(-1, 0)", x.out(-1, 0), -5);
        due("out(0, 2)", x.out(0, 2), -7);
        due("out(0, -1)", x.out(0, -1), -7);
        due("singly()", x.singly(), 1608);
        x.open(0, 0);
        HotCorner y = by("browns 10;cools 0;minds 2;");
        for (int c = 0; c < 8; c++) {
            y.cake(0, 201 + c, c);
        }
        due("singly() of eight", y.singly(), 2 * (1 + 2 + 3 + 4 + 5 + 6 + 7 + 8));
    }

    private static void soonEnough() {
        of = "promise 24";
        HotCorner x = by("browns 10;cools 0;minds 1;");
        due("soon(0, 0)", x.soon(0, 0), -5);
        x.cake(30, 0, 0);
        x.cake(0, 0, 1);
        due("soon(0, 0)", x.soon(0, 0), 0);
        due("soon(0, 1)", x.soon(0, 1), 3);
        due("soon(1, 10)", x.soon(1, 10), 1);
        due("soon(1, 11)", x.soon(1, 11), 2);
        due("soon(1, 200)", x.soon(1, 200), 20);
        due("soon(1, 201)", x.soon(1, 201), -1);
        due("soon(1, 999)", x.soon(1, 999), -1);
        due("soon(1, 1000)", x.soon(1, 1000), -7);
        due("soon(1, -1)", x.soon(1, -1), -7);
        due("soon(2, -1)", x.soon(2, -1), -5);
        due("soon(-1, 0)", x.soon(-1, 0), -5);
    }

    private static void fewEnough() {
        of = "promise 25";
        HotCorner x = unlikeCorners();
        due("few(79)", x.few(79), -1);
        due("few(80)", x.few(80), 0);
        x.open(0, 0);
        due("few(79)", x.few(79), -1);
        x.open(2, 2);
        x.open(3, 1);
        due("few(0)", x.few(0), 2);
        due("few(79)", x.few(79), 2);
        due("few(80)", x.few(80), 0);
        due("few(999)", x.few(999), 0);
        due("few(1000)", x.few(1000), -2);
        due("few(-1)", x.few(-1), -2);
        due("the plan is as it was", x.count(3), 3);
        x.force(read(x, "browns heat*(openings<3);cools 0;minds 1;"));
        x.shut();
        x.open(37, 0);
        x.open(38, 0);
        x.open(39, 0);
        due("all of them", x.few(0), 3);
    }

    private static void fanAndCost() {
        of = "promises 26, 27";
        HotCorner x = by("browns heat;cools 5;minds 1;");
        due("fan()", x.fan(), 0);
        due("cost()", x.cost(), 0);
        heat(x, 0, 26, 1, 25);
        x.cake(0, 0, 0);
        due("fan(), cut", x.fan(), 520 - 220);
        due("cost()", x.cost(), 0);
        x.open(0, 0);
        due("cost()", x.cost(), 21 * 20 - 26 * 20);
        due("fan()", x.fan(), 21 * 20 - 6 * 20);
        due("hot(1) is as it was", x.hot(1), 25);
        due("the plan is as it was", x.count(3), 1);
        x.cake(0, 999, 1);
        x.move(0, 2);
        due("cost() of both", x.cost(), (100 + 999 - 400) - (200 + 999 - 500));
        heat(x, 0, 26, 1, 26, 2, 10, 3, 9);
        x.shut();
        due("fan() of both", x.fan(), (200 + 999 - 520) - (220 + 999 - 220));
        HotCorner y = by("browns heat*openings;cools 0;minds 1;");
        y.cake(0, 0, 0);
        y.open(0, 0);
        due("cost() of what the openings say", y.cost(), 200);
    }

    // ---- where to lay what

    private static void laying() {
        of = "promise 28";
        HotCorner x = by("browns heat;cools 0;minds 2;");
        due("lay(0, 0)", x.lay(0, 0), -5);
        x.cake(0, 0, 5);
        due("lay(0, 0)", x.lay(0, 0), 0);
        due("lay(0, 1)", x.lay(0, 1), 400);
        heat(x, 7, 2, 9, 2, 5, 3);
        due("lay(0, 0)", x.lay(0, 0), 7);
        due("lay(0, 1)", x.lay(0, 1), 80);
        x.cake(0, 999, 7);
        due("where no other is", x.lay(0, 0), 9);
        x.cake(0, 0, 9);
        due("its own", x.lay(0, 0), 5);
        due("its own", x.lay(0, 1), 120);
        due("its own, the other one", x.lay(2, 0), 9);
        due("lay(3, 9)", x.lay(3, 9), -5);
        due("lay(-1, 0)", x.lay(-1, 0), -5);
        due("lay(0, 2)", x.lay(0, 2), -7);
        due("lay(0, -1)", x.lay(0, -1), -7);
        due("it lies as it lay", x.told(0, 3), 5);
        heat(x, 15, 1);
        due("the last place", x.lay(0, 0), 15);
        HotCorner y = by("browns heat;cools 0;minds 1;");
        y.cake(0, 0, 0);
        y.cake(0, 0, 1);
        heat(y, 0, 1);
        due("the first place is another's", y.lay(1, 0), 1);
    }

    private static void swapping() {
        of = "promise 29";
        HotCorner x = by("browns heat;cools 0;minds 1;");
        due("swap(0)", x.swap(0), -1);
        due("swap(1)", x.swap(1), 0);
        heat(x, 0, 5, 1, 10, 2, 10, 3, 10);
        x.cake(0, 200, 0);
        due("swap(0)", x.swap(0), -1);
        due("swap(1)", x.swap(1), 100);
        x.cake(0, 100, 1);
        due("swap(0)", x.swap(0), 1);
        due("swap(1)", x.swap(1), 0);
        x.cake(0, 100, 2);
        due("of like ones the first", x.swap(0), 1);
        due("of like ones the first", x.swap(1), 100);
        x.move(1, 3);
        due("swap(0)", x.swap(0), 1);
        due("swap(-1)", x.swap(-1), -2);
        due("swap(2)", x.swap(2), -2);
        due("they lie as they lay", x.told(1, 3), 3);
        HotCorner y = by("browns heat;cools 0;minds 1;");
        heat(y, 0, 5, 1, 10, 2, 20);
        y.cake(0, 100, 0);
        y.cake(0, 400, 1);
        y.cake(0, 200, 2);
        due("the last two", y.swap(0), 12);
        due("the last two", y.swap(1), 0);
        y.move(0, 5);
        y.move(1, 0);
        y.move(2, 1);
        y.cake(0, 0, 2);
        due("not less than now", y.swap(1) <= y.end(0) ? 1 : 0, 1);
        HotCorner z = by("browns heat;cools 0;minds 1;");
        z.cake(0, 100, 0);
        z.cake(0, 100, 1);
        due("like now", z.swap(0), -1);
        due("like now", z.swap(1), 200);
    }

    private static void lying() {
        of = "promise 30";
        HotCorner x = by("browns heat;cools 0;minds 1;");
        heat(x, 3, 25, 15, 25);
        x.cake(0, 500, 0);
        due("which(0)", x.which(0), 1);
        due("which(1)", x.which(1), 0);
        x.set(2, 0, 2);
        due("which(0), lying well", x.which(0), 1);
        x.open(0, 1);
        due("which(0), turned", x.which(0), 0);
        x.open(1, 3);
        x.open(2, 2);
        // lying 1: over 15, 3, 12: 25 + 25 + 18 * 10; lying 0: 25 + 10 + 18 * 25
        due("which(0)", x.which(0), 0);
        due("which(1)", x.which(1), 500 - 25 - 10 - 450);
        due("which(-1)", x.which(-1), -2);
        due("which(2)", x.which(2), -2);
        due("it lies as it lay", x.count(2), 2);
        HotCorner y = by("browns heat;cools 0;minds 1;");
        heat(y, 12, 25);
        y.cake(0, 500, 0);
        due("by three", y.which(0), 3);
    }

    // ---- told tins

    private interface Asked {
        long of(HotCorner x, int s);
    }

    private static void refusals(Asked asked, boolean isLong) {
        HotCorner x = new HotCorner();
        due("no such sheet", asked.of(x, -1), isLong ? HotCorner.NO : -2);
        due("no such sheet", asked.of(x, 4), isLong ? HotCorner.NO : -2);
        due("missing", asked.of(x, 3), isLong ? HotCorner.NO : -11);
        x.sheet(0, 2, 1);
        due("too many", asked.of(x, 0), isLong ? HotCorner.NO : -2);
        x.cake(0, 0, 0);
        x.cake(0, 0, 1);
        due("too few", asked.of(x, 0), isLong ? HotCorner.NO : -2);
    }

    private static void judging() {
        of = "promise 31";
        refusals((x, s) -> x.judge(s), false);
        HotCorner x = by("browns heat;cools 0;minds 1;");
        x.sheet(0, 0, 0);
        due("no cakes", x.judge(0), -1);
        heat(x, 0, 6, 1, 7, 2, 8);
        x.cake(0, 0, 0);
        x.cake(0, 0, 1);
        x.cake(0, 0, 2);
        row(x, 1, 1, 120, 140, 160);
        row(x, 2, 2, 120, 140, 160);
        due("judge(1)", x.judge(1), -1);
        due("judge(2)", x.judge(2), -1);
        x.cell(2, 2, 161);
        due("judge(2)", x.judge(2), 2);
        x.cell(2, 1, 65536 + 140);
        due("judge(2)", x.judge(2), 1);
        x.cell(2, 0, -120);
        due("judge(2)", x.judge(2), 0);
        x.cell(1, 1, 65536 + 140);
        due("its lowest 16 bits", x.judge(1), -1);
        x.set(1, 0, 10);
        row(x, 0, 0, 256 + 60, 70, 80);
        due("its lowest 8 bits", x.judge(0), -1);
        of = "promise 32";
        refusals((y, s) -> y.how(s), false);
        due("how(0): of all spots", x.how(0), 1);
        heat(x, 3, 6, 7, 7, 11, 8, 12, 6, 8, 7, 4, 8);
        due("how(0)", x.how(0), 1 + 2 + 8);
        heat(x, 0, 5);
        due("how(0)", x.how(0), 2 + 8);
        due("it lies as it lay", x.count(2), 0);
        x.cell(0, 0, 1);
        due("how(0)", x.how(0), 0);
    }

    private static void judgedKinds() {
        of = "promise 33";
        refusals((x, s) -> x.kinds(s, 99, 99), false);
        HotCorner x = by("browns 10;cools 0;minds 1;");
        x.cake(2, 0, 0);
        x.cake(41, 0, 1);
        x.set(1, 0, 4);
        row(x, 0, 2, 40, 40);
        // CAKE, GRANDFATHERS: 40; THICK: 24; THIN: 44; FROZEN: 12; SUGARED with 2: 44
        due("kinds of the first", x.kinds(0, 0, 0), 1 + 32);
        due("MORE of the first", x.kinds(0, 0, 1), 1023);
        // THIN with 1: 40; SUGARED with 1: 40
        due("kinds of the second", x.kinds(0, 1, 0), 1 + 4 + 16 + 32);
        due("MORE of the second", x.kinds(0, 1, 1), 2);
        row(x, 0, 2, 24, 40);
        due("kinds of the first", x.kinds(0, 0, 0), 2);
        due("MORE of the first", x.kinds(0, 0, 1), 0);
        row(x, 0, 2, 44, 40);
        due("kinds of the first", x.kinds(0, 0, 0), 4 + 16);
        row(x, 0, 2, 12, 40);
        due("kinds of the first", x.kinds(0, 0, 0), 8);
        due("all else too", x.kinds(0, 1, 0), 0);
        due("kinds(0, 2, 9)", x.kinds(0, 2, 9), -5);
        due("kinds(0, -1, 0)", x.kinds(0, -1, 0), -5);
        due("kinds(0, 0, 2)", x.kinds(0, 0, 2), -7);
        due("kinds(0, 0, -1)", x.kinds(0, 0, -1), -7);
        due("it is as it was", x.told(0, 0), 0);
        due("it is as it was", x.told(1, 1), 1);
    }

    private static void judgedHeats() {
        of = "promise 34";
        refusals((x, s) -> x.heats(s, 99, 99), false);
        HotCorner x = by("browns heat*2;cools 0;minds 1;");
        x.cake(0, 0, 0);
        x.set(1, 0, 1);
        row(x, 0, 1, 99);
        due("many", x.heats(0, 0, 0), 50);
        due("least", x.heats(0, 0, 1), 50);
        due("most", x.heats(0, 0, 2), 99);
        x.cell(0, 0, 98);
        due("many", x.heats(0, 0, 0), 1);
        due("least", x.heats(0, 0, 1), 49);
        due("most", x.heats(0, 0, 2), 49);
        x.cell(0, 0, 97);
        due("many", x.heats(0, 0, 0), 0);
        due("least", x.heats(0, 0, 1), -1);
        due("most", x.heats(0, 0, 2), -1);
        due("another spot", x.heats(0, 15, 0), 0);
        x.cell(0, 0, 20);
        due("another spot", x.heats(0, 15, 0), 100);
        due("another spot", x.heats(0, 15, 1), 0);
        due("heats(0, 16, 9)", x.heats(0, 16, 9), -6);
        due("heats(0, -1, 0)", x.heats(0, -1, 0), -6);
        due("heats(0, 0, 3)", x.heats(0, 0, 3), -7);
        due("heats(0, 0, -1)", x.heats(0, 0, -1), -7);
        due("it is as hot as it was", x.hot(0), 10);
    }

    private static void judgedTurns() {
        of = "promise 35";
        refusals((x, s) -> x.turned(s), true);
        HotCorner x = unlikeCorners();
        x.open(0, 1);
        row(x, 0, 2, 80, 80);
        due("turned(0)", x.turned(0), 4);
        row(x, 0, 2, 120, 40);
        due("turned(0)", x.turned(0), 1);
        row(x, 0, 2, 60, 100);
        due("turned(0)", x.turned(0), 8);
        row(x, 0, 2, 40, 120);
        due("not at all", x.turned(0), 0);
        due("the plan is as it was", x.opening(0, 1), 1);
        HotCorner y = new HotCorner();
        y.set(1, 0, 40);
        y.sheet(0, 1, 0);
        due("all 40", y.turned(0), (1L << 40) - 1);
        y.force(read(y, "browns openings*10;cools 0;minds 1;"));
        y.cake(0, 0, 0);
        row(y, 0, 2, 400);
        due("it is one opening", y.turned(0), (1L << 40) - 1);
    }

    private static void judgedLaws() {
        of = "promise 36";
        refusals((x, s) -> x.laws(s), false);
        HotCorner x = new HotCorner();
        x.cake(0, 0, 0);
        row(x, 0, 2, 400);
        due("laws(0)", x.laws(0), 1);
        read(x, "browns 19;cools 0;minds 1;");
        read(x, "browns 20;cools 9;minds 7;");
        due("laws(0)", x.laws(0), 1 + 4);
        x.cell(0, 0, 380);
        due("laws(0)", x.laws(0), 2);
        x.force(2);
        due("whatever is the law", x.laws(0), 2);
        due("the law is as it was", x.count(5), 2);
        read(x, "browns 19+0*heat;cools 0;minds 1;");
        read(x, "browns 1;cools 0;minds 1;");
        read(x, "browns heat+9;cools 0;minds 1;");
        due("laws(0)", x.laws(0), 2 + 8 + 32);
        x.cell(0, 0, 1);
        due("laws(0)", x.laws(0), 0);
        HotCorner y = new HotCorner();
        y.cake(0, 0, 0);
        row(y, 0, 2, 0);
        due("none of one text", y.laws(0), 0);
    }

    private static void filming() {
        of = "promise 37";
        HotCorner x = by("browns heat;cools 0;minds 1;");
        due("film(-1, 0)", x.film(-1, 0), -2);
        due("film(4, 0)", x.film(4, 0), -2);
        due("film(0, -1)", x.film(0, -1), -2);
        due("film(0, 21)", x.film(0, 21), -2);
        due("nothing came", x.judge(0), -11);
        x.sheet(0, 2, 5);
        due("film(0, 20)", x.film(0, 20), 0);
        due("an empty row", x.judge(0), -1);
        heat(x, 1, 40);
        x.cake(0, 0, 0);
        x.cake(0, 0, 1);
        due("film(0, 20)", x.film(0, 20), 2);
        due("judge(0)", x.judge(0), -1);
        due("film(3, 5)", x.film(3, 5), 2);
        x.set(1, 0, 5);
        due("judge(3)", x.judge(3), -1);
        due("judge(0)", x.judge(0), 0);
        x.sheet(1, 1, 2);
        due("they are shorts", x.copy(1, 0, 3, 0, 0), 0);
        due("two of them", x.cell(3, 2, 0), -12);
        due("film(3, 0)", x.film(3, 0), 2);
        x.heats(3, 0, 0);
        due("not brown yet", x.judge(3), 0);
    }

    // ---- ovens by lot

    private static void drawing() {
        of = "promise 38";
        HotCorner x = by("browns heat;cools 0;minds 1;");
        due("drawn(0, 1)", x.drawn(0, 1), 0);
        x.cake(0, 0, 0);
        x.cake(0, 0, 1);
        // lots 48271, 182605794, 1291394886, 1914720637: 1, 24, 6, 7 hot
        due("drawn(0, 0)", x.drawn(0, 0), 500);
        due("drawn(0, 1)", x.drawn(0, 1), 460);
        x.move(0, 2);
        x.move(1, 3);
        due("drawn(0, 0)", x.drawn(0, 0), 260);
        due("drawn(0, 1)", x.drawn(0, 1), 20);
        x.move(0, 0);
        HotCorner y = by("browns heat;cools 0;minds 1;");
        y.cake(0, 0, 0);
        due("drawn(99999, 0)", y.drawn(99999, 0), 20 * (int) (100000L * 48271 % 2147483647 % 30));
        due("drawn(-1, 0)", x.drawn(-1, 0), -2);
        due("drawn(100000, 0)", x.drawn(100000, 0), -2);
        due("drawn(0, -1)", x.drawn(0, -1), -2);
        due("drawn(0, 2)", x.drawn(0, 2), -2);
        due("the oven is as it was", x.hot(0), 10);
        oddness(x);
    }

    private static void oddness(HotCorner x) {
        of = "promise 39";
        x.move(0, 2);
        int[] apart = new int[12];
        for (int seed = 0; seed < 12; seed++) {
            apart[seed] = x.drawn(seed, 1);
        }
        int even = 0;
        for (int seed = 0; seed < 12; seed++) {
            even += apart[seed] <= apart[5] ? 1 : 0;
        }
        long above = x.odds(0, 12, apart[5], 0);
        long below = x.odds(0, 12, apart[5], 1);
        due("the same part", above * 12, below * even);
        due("of the first alone", x.odds(0, 1, 20, 0), 1);
        due("of the first alone", x.odds(0, 1, 20, 1), 1);
        due("of the first alone", x.odds(0, 1, 19, 0), 0);
        due("of the first alone", x.odds(0, 1, 19, 1), 1);
        due("all", x.odds(99999, 20, 999, 0), 1);
        due("all", x.odds(99999, 20, 999, 1), 1);
        due("seed", x.odds(-1, 1, 0, 0), HotCorner.NO);
        due("seed", x.odds(100000, 1, 0, 0), HotCorner.NO);
        due("seeds", x.odds(0, 0, 0, 0), HotCorner.NO);
        due("seeds", x.odds(0, 21, 0, 0), HotCorner.NO);
        due("far 0", x.odds(0, 1, 0, 0), 0);
        due("far", x.odds(0, 1, -1, 0), HotCorner.NO);
        due("far", x.odds(0, 1, 1000, 0), HotCorner.NO);
        due("part", x.odds(0, 1, 0, -1), HotCorner.NO);
        due("part", x.odds(0, 1, 0, 2), HotCorner.NO);
        HotCorner y = by("browns heat*2;cools 0;minds 1;");
        y.set(1, 0, 1);
        y.cake(50, 0, 0);
        y.cake(20, 0, 1);
        int[] far = new int[4];
        for (int seed = 0; seed < 4; seed++) {
            long first = (seed + 1) * 48271L % 2147483647L;
            long second = first * 48271L % 2147483647L;
            far[seed] = (int) (2 * Math.abs(first % 30 - second % 30));
            due("drawn(" + seed + ", 1)", y.drawn(seed, 1), far[seed]);
        }
        int[] sorted = far.clone();
        Arrays.sort(sorted);
        due("two of four, above", y.odds(0, 4, sorted[1], 0), 1);
        due("two of four, below", y.odds(0, 4, sorted[1], 1), 2);
        due("three of four, above", y.odds(0, 4, sorted[2], 0), 3);
        due("three of four, below", y.odds(0, 4, sorted[2], 1), 4);
    }

    private static void images() {
        of = "promises 40, 41";
        HotCorner x = new HotCorner();
        due("back()", x.back(), -3);
        read(x, "browns 1;cools 2;minds 3;");
        x.force(1);
        heat(x, 0, 1, 15, 99);
        x.cake(11, 222, 3);
        x.cake(22, 333, 4);
        x.open(3, 1);
        x.open(7, 2);
        x.set(1, 0, 33);
        x.set(2, 0, 3);
        due("image()", x.image(), 2);
        read(x, "browns 2;cools 2;minds 3;");
        x.force(2);
        heat(x, 0, 50, 1, 50, 15, 50);
        x.cake(33, 444, 5);
        x.move(0, 9);
        x.move(1, 3);
        x.shut();
        x.open(39, 3);
        x.set(1, 0, 1);
        x.set(2, 0, 1);
        x.sheet(0, 0, 0);
        x.feed(3, 1, 1, 1, 1, 1);
        due("back()", x.back(), 2);
        int[] due = {2, 33, 3, 2, 3, 1, 3};
        for (int what = 0; what < 7; what++) {
            due("count(" + what + ")", x.count(what), due[what]);
        }
        due("hot(0)", x.hot(0), 1);
        due("hot(1)", x.hot(1), 10);
        due("hot(15)", x.hot(15), 99);
        due("place", x.told(0, 3), 3);
        due("place", x.told(1, 3), 4);
        due("none", x.told(2, 0), -5);
        due("its place is free", x.taken(5, 0), -11);
        due("kind", x.told(0, 0), 1);
        due("opening", x.opening(0, 0), 3);
        due("opening", x.opening(1, 1), 2);
        due("the sheet stays", x.cell(0, 0, 0), -12);
        due("a new one comes", x.cake(50, 1, 5), 2);
        due("its kind", x.told(2, 0), 5);
        due("back() again", x.back(), 2);
        x.cake(0, 0, 0);
        due("image() anew", x.image(), 3);
        due("back()", x.back(), 3);
    }

    // ---- the host

    private static void sheets() {
        of = "promise 42";
        HotCorner x = new HotCorner();
        for (int s = 0; s < 4; s++) {
            due("missing at first", x.cell(s, 0, 0), -11);
        }
        due("sheet(-1, 0, 0)", x.sheet(-1, 0, 0), -2);
        due("sheet(4, 0, 0)", x.sheet(4, 0, 0), -2);
        due("sheet(0, -2, 0)", x.sheet(0, -2, 0), -2);
        due("sheet(0, 3, 0)", x.sheet(0, 3, 0), -2);
        due("sheet(0, 0, 41)", x.sheet(0, 0, 41), -2);
        due("sheet(0, 0, -1)", x.sheet(0, 0, -1), -14);
        due("sheet(4, 0, -1)", x.sheet(4, 0, -1), -2);
        due("sheet(0, 3, -1)", x.sheet(0, 3, -1), -2);
        due("still missing", x.cell(0, 0, 0), -11);
        due("sheet(0, 0, 0)", x.sheet(0, 0, 0), 1);
        due("no cells", x.cell(0, 0, 0), -12);
        due("sheet(3, 2, 40)", x.sheet(3, 2, 40), 1);
        due("40 cells", x.cell(3, 39, 0), 1);
        due("40 cells", x.cell(3, 40, 0), -12);
        x.cell(3, 0, 59);
        x.sheet(3, 2, 3);
        same("all 0 again", cakeBy(x, 3, 2, 0), "0 0 0");
        due("sheet(3, -1, 99)", x.sheet(3, -1, 99), 1);
        due("missing", x.cell(3, 0, 0), -11);
        due("sheet(3, -1, -99)", x.sheet(3, -1, -99), 1);
        due("still there", x.cell(0, 0, 0), -12);
        x.cell(0, 0, 0);
        x.sheet(0, 0, 2);
        due("refused, and as it was", x.sheet(0, 1, 41), -2);
        due("as it was", x.cell(0, 1, 0), 1);
    }

    private static void cells() {
        of = "promise 43";
        HotCorner x = new HotCorner();
        due("cell(-1, 0, 0)", x.cell(-1, 0, 0), -2);
        due("cell(4, 0, 0)", x.cell(4, 0, 0), -2);
        x.sheet(0, 0, 3);
        x.sheet(1, 1, 3);
        x.sheet(2, 2, 3);
        due("cell(0, -1, 0)", x.cell(0, -1, 0), -12);
        due("cell(0, 3, 0)", x.cell(0, 3, 0), -12);
        due("cell(3, 3, 0)", x.cell(3, 3, 0), -11);
        for (int s = 0; s < 3; s++) {
            due("cell 0", x.cell(s, 0, 65536 + 256 + 12), 1);
            due("cell 1", x.cell(s, 1, 65536 + 127), 1);
            due("cell 2", x.cell(s, 2, 2), 1);
        }
        same("bytes", cakeBy(x, 0, 0, 0), "12 127 2");
        same("shorts", cakeBy(x, 1, 1, 0), "0");
        x.cell(1, 0, 65536 + 12);
        same("shorts", cakeBy(x, 1, 1, 0), "12 127 2");
        x.cell(2, 0, 12);
        same("ints", cakeBy(x, 2, 2, 0), "0");
        x.cell(2, 1, 127);
        same("ints", cakeBy(x, 2, 2, 0), "12 127 2");
        x.cell(0, 1, 128);
        same("bytes have a sign", cakeBy(x, 0, 0, 0), "0");
    }

    private static void copies() {
        of = "promise 44";
        HotCorner x = new HotCorner();
        due("copy(-1, ..)", x.copy(-1, 0, 0, 0, 0), -2);
        due("copy(4, ..)", x.copy(4, 0, 0, 0, 0), -2);
        due("other -1", x.copy(0, 0, -1, 0, 0), -2);
        due("other 4", x.copy(0, 0, 4, 0, 0), -2);
        row(x, 0, 2, 1, 2, 3, 4, 5, 6);
        due("missing", x.copy(0, 0, 1, 0, 0), -11);
        due("missing", x.copy(1, 0, 0, 0, 0), -11);
        x.sheet(1, 1, 6);
        x.sheet(2, 2, 5);
        due("unlike", x.copy(0, 0, 1, 0, 1), -13);
        due("unlike, and outside", x.copy(0, 99, 1, 0, 1), -13);
        due("n below 0", x.copy(0, 0, 2, 0, -1), -12);
        due("i below 0", x.copy(0, -1, 2, 0, 1), -12);
        due("j below 0", x.copy(0, 0, 2, -1, 1), -12);
        due("i too far", x.copy(0, 3, 2, 0, 4), -12);
        due("j too far", x.copy(0, 0, 2, 0, 6), -12);
        due("j too far", x.copy(0, 0, 2, 3, 3), -12);
        due("n 0", x.copy(0, 6, 2, 5, 0), 0);
        due("n 0, i", x.copy(0, 7, 2, 5, 0), -12);
        due("n 0, j", x.copy(0, 6, 2, 6, 0), -12);
        due("far i", x.copy(0, Integer.MAX_VALUE, 2, 0, 2), -12);
        due("far n", x.copy(0, 2, 2, 0, Integer.MAX_VALUE), -12);
        same("nothing came", cakeBy(x, 2, 2, 0), "0 0 0");
        row(x, 3, 2, 7);
        due("sheet 3", x.copy(3, 0, 3, 0, 1), 1);
        due("copy", x.copy(0, 1, 2, 2, 3), 3);
        same("it came there", cakeBy(x, 2, 2, 2), "2 3 4");
        same("not ahead", cakeBy(x, 2, 2, 0), "0 0 2");
        due("its own, on", x.copy(0, 0, 0, 1, 5), 5);
        same("as they were", cakeBy(x, 0, 2, 0), "1 1 2");
        same("as they were", cakeBy(x, 0, 2, 3), "3 4 5");
        due("its own, back", x.copy(0, 2, 0, 0, 4), 4);
        same("as they were", cakeBy(x, 0, 2, 0), "2 3 4");
        same("as they were", cakeBy(x, 0, 2, 3), "5 4 5");
    }

    private static void cakesBySheet() {
        of = "promise 45";
        HotCorner x = new HotCorner();
        due("missing", x.cakesBy(0, 0, 0, 0), -11);
        due("sheet", x.cakesBy(-1, 0, 0, 0), -2);
        due("sheet", x.cakesBy(4, 0, 0, 0), -2);
        due("sort", x.cakesBy(0, -1, 0, 0), -2);
        due("sort", x.cakesBy(0, 3, 0, 0), -2);
        due("n", x.cakesBy(0, 0, 0, -1), -2);
        due("n", x.cakesBy(0, 0, 0, 9), -2);
        row(x, 0, 2, 9, 12, 345, 6, 60, 0, 0, 23, 456, 6, 34, 567, 7, 1, 2);
        due("another sort", x.cakesBy(0, 1, 0, 1), -13);
        due("none of them", x.cakesBy(0, 2, 0, 0), 0);
        due("none outside", x.cakesBy(0, 2, 99, 0), 0);
        due("outside", x.cakesBy(0, 2, -1, 2), -12);
        due("outside", x.cakesBy(0, 2, 13, 1), -12);
        due("outside", x.cakesBy(0, 2, Integer.MAX_VALUE, 1), -12);
        due("outside", x.cakesBy(0, 2, Integer.MIN_VALUE, 8), -12);
        due("none came", x.count(0), 0);
        due("what can come", x.cakesBy(0, 2, 1, 4), 2);
        due("kind", x.told(0, 0), 1);
        due("more", x.told(0, 1), 2);
        due("wish", x.told(0, 2), 345);
        due("place", x.told(0, 3), 6);
        due("kind", x.told(1, 0), 3);
        due("wish", x.told(1, 2), 567);
        due("place", x.told(1, 3), 7);
        HotCorner y = new HotCorner();
        row(y, 0, 0, 0, 1, 2, 0, 1, 3, 0, 1, 4, 0, 1);
        due("what stood ahead", y.cakesBy(0, 0, 0, 4), -12);
        due("came", y.count(0), 3);
        for (int place = 5; place < 10; place++) {
            y.cake(0, 0, place);
        }
        row(y, 1, 1, 0, 1, 15);
        due("full", y.cakesBy(1, 1, 0, 1), 0);
    }

    private static void takings() {
        of = "promise 46";
        HotCorner x = new HotCorner();
        int[] is = {1, 1 + 2, 1 + 4, 1 + 2 + 8, 1 + 4 + 16, 1 + 32};
        for (int kind = 0; kind < 6; kind++) {
            x.cake(10 * kind, 0, 15 - kind);
        }
        for (int kind = 0; kind < 6; kind++) {
            for (int as = 0; as < 6; as++) {
                due("kind " + kind + " taken for " + as, x.taken(15 - kind, as), (is[kind] >> as & 1) == 1 ? kind : -13);
            }
            due("kind " + kind + " taken for a spot", x.taken(15 - kind, 6), -13);
        }
        heat(x, 0, 5, 15, 77);
        due("spot 0", x.taken(16, 6), 5);
        due("spot 15", x.taken(31, 6), 77);
        due("spot 0 as a cake", x.taken(16, 0), -13);
        due("spot 15 as a cake", x.taken(31, 5), -13);
        due("nothing", x.taken(0, 0), -11);
        due("nothing, as a spot", x.taken(0, 6), -11);
        due("place -1", x.taken(-1, 0), -12);
        due("place 32", x.taken(32, 6), -12);
        due("kind -1", x.taken(-1, -1), -2);
        due("kind 7", x.taken(32, 7), -2);
    }

    // ---- what goes for all

    private static void endless() {
        of = "any arguments";
        int[] odd = {Integer.MIN_VALUE, Integer.MIN_VALUE + 1, -101, -1, 0, 1, 3, 40, 999, 1 << 30, Integer.MAX_VALUE};
        for (Method m : HotCorner.class.getDeclaredMethods()) {
            if (!Modifier.isPublic(m.getModifiers())) {
                continue;
            }
            HotCorner x = new HotCorner();
            x.cake(0, 0, 0);
            x.sheet(0, 2, 1);
            for (int i = 0; i < 500; i++) {
                Object[] a = new Object[m.getParameterCount()];
                for (int k = 0, rest = i * 7 + i / 11; k < a.length; k++, rest = rest / 11 + 5 * i) {
                    a[k] = odd[rest % 11];
                }
                try {
                    m.invoke(x, a);
                } catch (ReflectiveOperationException thrown) {
                    due(m.getName() + Arrays.toString(a) + " threw " + thrown.getCause(), 1, 0);
                }
            }
        }
    }
}
