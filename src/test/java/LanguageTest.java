import java.io.IOException;
import java.lang.management.ManagementFactory;
import java.nio.file.Files;
import java.nio.file.Path;
import java.util.regex.Matcher;
import java.util.regex.Pattern;

/** What of ../shared/LANGUAGE.md can be seen from the source's text, and how much room the dearest calls take. */
public final class LanguageTest {
    private static int wrong = 0;

    public static void main(String[] args) throws IOException {
        String whole = Files.readString(Path.of("src/main/java/HotCorner.java"));
        for (int i = 0; i < whole.length(); i++) {
            if (whole.charAt(i) > 126 || whole.charAt(i) < 32 && whole.charAt(i) != '\n') {
                wrong("a sign outside 32 to 126 at " + i);
            }
        }
        String code = whole.replaceAll("(?s)/\\*.*?\\*/", "").replaceAll("//[^\n]*", "");
        String bare = code.replaceAll("\"[^\"\n]*\"", "\"\"").replaceAll("'.'", "0");
        String[] never = {
            "\\bpackage\\b", "\\bimport\\b", "->", "::", "@", "\\bthrow\\b", "\\bthrows\\b", "\\btry\\b", "\\bcatch\\b",
            "\\bfinally\\b", "\\bsynchronized\\b", "\\bassert\\b", "\\bvar\\b", "\"\"\\s*\\+", "\\+\\s*\"\"", "Exact\\b",
            "\\bstatic\\s*\\{", "\\bvolatile\\b", "\\bnative\\b", "\\bnew\\s+String\\b", "\\bSystem\\.(?!arraycopy)",
            "\\bMath\\.(?!max\\b|min\\b|abs\\b)", "\\bprotected\\b", "\\bObject\\b", "\\bdouble\\b", "\\bfloat\\b"
        };
        for (String one : never) {
            Matcher found = Pattern.compile(one).matcher(bare);
            if (found.find()) {
                wrong("the source has '" + found.group() + "'");
            }
        }
        int classes = count(bare, "\\b(class|interface|enum|record)\\s+\\w+");
        if (classes > 12) {
            wrong("there are " + classes + " classes");
        }
        if (count(bare, "static\\s+(?!final|class|int|boolean|long|String|abstract)") > 0) {
            wrong("a static field isn't final");
        }
        if (count(bare, "static\\s+\\w+\\s+\\w+\\s*[=;]") > 0) {
            wrong("a static field isn't final");
        }
        lengths(bare);
        room();
        System.out.println(wrong == 0 ? "the language is kept to" : wrong + " rules are not kept");
        if (wrong != 0) {
            System.exit(1);
        }
    }

    private static void wrong(String why) {
        wrong++;
        System.out.println(why);
    }

    private static int count(String in, String pattern) {
        Matcher found = Pattern.compile(pattern).matcher(in);
        int many = 0;
        while (found.find()) {
            many++;
        }
        return many;
    }

    private static void lengths(String bare) {
        String head = "(?m)^ +(?:public |private |static |final )*[\\w<>\\[\\]]+ (\\w+)\\(([^)]*)\\) \\{$";
        Matcher method = Pattern.compile(head).matcher(bare);
        int methods = 0;
        while (method.find()) {
            methods++;
            if (method.group(2).split(",").length > 7) {
                wrong(method.group(1) + " takes more than seven");
            }
            int depth = 1;
            int lines = 1;
            for (int i = method.end(); i < bare.length() && depth > 0; i++) {
                char sign = bare.charAt(i);
                depth += sign == '{' ? 1 : sign == '}' ? -1 : 0;
                lines += sign == '\n' ? 1 : 0;
            }
            if (lines > 60) {
                wrong(method.group(1) + " has " + lines + " lines");
            }
        }
        if (methods < 100) {
            wrong("only " + methods + " methods are seen");
        }
    }

    /** The dearest calls make nothing; a new object and its texts make little. */
    private static void room() {
        com.sun.management.ThreadMXBean threads = (com.sun.management.ThreadMXBean) ManagementFactory.getThreadMXBean();
        long me = Thread.currentThread().getId();
        for (int round = 0; round < 2; round++) {
            long before = threads.getThreadAllocatedBytes(me);
            HotCorner x = new HotCorner();
            for (int c = 0; c < 8; c++) {
                x.cake(7 * c, 100 * c, c);
            }
            x.film(0, 20);
            long made = threads.getThreadAllocatedBytes(me);
            for (int i = 0; i < 25; i++) {
                x.twice(0);
                x.when(1, 1);
                x.heats(0, 0, 0);
                x.odds(0, 20, 100, 0);
                x.swap(0);
                x.turned(0);
                x.sheet(1, 2, 40);
                x.feed(5, 'b', 'r', 'o', 'w', 'n');
                x.text();
                x.image();
                x.back();
            }
            long asked = threads.getThreadAllocatedBytes(me);
            // the first round loads classes
            if (round == 1 && (made - before > 16000 || asked - made > 4000)) {
                wrong("made " + (made - before) + " bytes at first, and " + (asked - made) + " in calls");
            }
        }
    }
}
