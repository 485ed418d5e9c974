import java.io.IOException;
import java.nio.file.Files;
import java.nio.file.Path;
import java.util.ArrayList;
import java.util.List;
import java.util.regex.Matcher;
import java.util.regex.Pattern;

/** The calls that README.md shows, in its order: each line there must tell what is answered here. */
public final class ReadmeTest {
    private static final List<String> CALLS = new ArrayList<>();
    private static final List<Long> TOLD = new ArrayList<>();
    private static int next = 0, wrong = 0;

    public static void main(String[] args) throws IOException {
        String page = Files.readString(Path.of("README.md"));
        Matcher line = Pattern.compile("(?m)^(x\\..*); +// (-?\\d+): ").matcher(page);
        while (line.find()) {
            CALLS.add(line.group(1));
            TOLD.add(Long.parseLong(line.group(2)));
        }
        HotCorner x = new HotCorner();
        oven(x);
        law(x, page);
        if (next != CALLS.size()) {
            wrong("the page shows " + CALLS.size() + " calls, here are " + next);
        }
        System.out.println(wrong == 0 ? "the page tells what is so" : wrong + " lines of the page are not so");
        if (wrong != 0) {
            System.exit(1);
        }
    }

    private static void wrong(String why) {
        wrong++;
        System.out.println(why);
    }

    private static void shown(String call, long got) {
        if (next >= CALLS.size() || !CALLS.get(next).equals(call)) {
            wrong(call + " is not shown as number " + next);
        } else if (TOLD.get(next) != got) {
            wrong(call + " answered " + got + ", the page tells " + TOLD.get(next));
        }
        next++;
    }

    private static void oven(HotCorner x) {
        shown("x.set(0, 5, 40)", x.set(0, 5, 40));
        shown("x.cake(12, 300, 5)", x.cake(12, 300, 5));
        shown("x.cake(0, 200, 10)", x.cake(0, 200, 10));
        shown("x.open(8, 2)", x.open(8, 2));
        shown("x.at(0, 8)", x.at(0, 8));
        shown("x.end(0)", x.end(0));
        shown("x.end(1)", x.end(1));
        shown("x.when(0, 0)", x.when(0, 0));
        shown("x.out(0, 0)", x.out(0, 0));
        shown("x.lay(1, 0)", x.lay(1, 0));
        shown("x.film(0, 20)", x.film(0, 20));
        shown("x.how(0)", x.how(0));
        shown("x.end(9)", x.end(9));
    }

    private static void law(HotCorner x, String page) {
        String law = "browns heat + more ; cools 5 ; minds 1 + ( brown < 100 ) ;";
        if (!page.contains("String law = \"" + law + "\";")) {
            wrong("the page shows another law");
        }
        for (int i = 0; i < law.length(); i += 5) {
            int[] b = new int[5];
            int n = Math.min(5, law.length() - i);
            for (int k = 0; k < n; k++) {
                b[k] = law.charAt(i + k);
            }
            x.feed(n, b[0], b[1], b[2], b[3], b[4]);
        }
        shown("x.text()", x.text());
        shown("x.force(1)", x.force(1));
        shown("x.asks(0, 4007, 100, 0)", x.asks(0, 4007, 100, 0));
    }
}
