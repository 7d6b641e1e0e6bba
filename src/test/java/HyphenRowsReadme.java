import java.io.IOException;
import java.nio.file.Files;
import java.nio.file.Path;
import java.util.ArrayList;
import java.util.List;

/**
 * The example of README.md: each call answers what is due, and README.md has the same call, in the
 * same order, with the same answer behind it. It is run from the project's folder.
 */
public final class HyphenRowsReadme {
    private static final List<String> told = new ArrayList<>();
    private static int line = 0;
    private static int wrong = 0;

    public static void main(String[] args) throws IOException {
        readExample();
        example();
        while (line < told.size()) {
            complain("README.md has a call that is not tested: " + told.get(line));
            line++;
        }
        System.out.println(wrong == 0 ? "README.md's example is as due" : wrong + " faults");
        if (wrong != 0) {
            System.exit(1);
        }
    }

    private static void example() {
        HyphenRows rows = new HyphenRows();

        int english = rows.language();
        due("int english = rows.language();", 0, english);
        readme("rows.code(english, 'a' + i, i + 1, false);", "1");
        readme("rows.code(english, 'A' + i, i + 1, true);", "1");
        for (int i = 0; i < 26; i++) {
            same("rows.code(english, 'a' + i, i + 1, false);", 1, rows.code(english, 'a' + i, i + 1, false));
            same("rows.code(english, 'A' + i, i + 1, true);", 1, rows.code(english, 'A' + i, i + 1, true));
        }
        due("rows.ends(english, 2, 2, true);", 1, rows.ends(english, 2, 2, true));

        due("rows.next(1, 0);", 1, rows.next(1, 0));
        due("rows.next(14, 1);", 2, rows.next(14, 1));
        due("rows.pattern(english, 0);", 0, rows.pattern(english, 0));

        due("rows.next(0, 0);", 1, rows.next(0, 0));
        due("rows.next(2, 0);", 2, rows.next(2, 0));
        due("rows.next(1, 0);", 3, rows.next(1, 0));
        due("rows.next(14, 2);", 4, rows.next(14, 2));
        due("rows.pattern(english, 0);", 1, rows.pattern(english, 0));
        due("rows.patterns();", 2, rows.patterns());

        readme("rows.sign(c);", "1, 2, .. 6");
        int signs = 0;
        for (char c : "banana".toCharArray()) {
            signs++;
            same("rows.sign(c);", signs, rows.sign(c));
        }
        due("rows.run(english);", 1, rows.run(english));
        due("rows.at(0);", 4, rows.at(0));
        due("rows.at(1);", -1, rows.at(1));
        due("rows.digit(english, 2);", 2, rows.digit(english, 2));
        due("rows.digit(english, 4);", 1, rows.digit(english, 4));

        due("rows.exception(english, 1 << 3);", 0, rows.exception(english, 1 << 3));
        due("rows.exceptions();", 1, rows.exceptions());
        due("rows.run(english);", 1, rows.run(english));
        due("rows.at(0);", 3, rows.at(0));
        due("rows.drop(0);", 1, rows.drop(0));
        due("rows.run(english);", 1, rows.run(english));
        due("rows.at(0);", 4, rows.at(0));

        due("rows.clear();", 6, rows.clear());
    }

    private static void due(String call, int want, int got) {
        readme(call, Integer.toString(want));
        same(call, want, got);
    }

    private static void same(String call, int want, int got) {
        if (got != want) {
            complain(call + " answered " + got + ", due is " + want);
        }
    }

    /** The next call of README.md is this one; its answer ends its line or stands before a colon. */
    private static void readme(String call, String answer) {
        String there = line < told.size() ? told.get(line) : "nothing";
        line++;
        String[] parts = there.split("//", 2);
        boolean sameCall = parts[0].trim().equals(call);
        boolean sameAnswer = parts.length == 2 && parts[1].split(":", 2)[0].trim().equals(answer);
        if (!sameCall || !sameAnswer) {
            complain("README.md has '" + there + "', due is '" + call + " // " + answer + "'");
        }
    }

    private static void complain(String fault) {
        wrong++;
        System.out.println(fault);
    }

    /** The lines with a call, out of the first block of Java in README.md. */
    private static void readExample() throws IOException {
        boolean inside = false;
        for (String text : Files.readAllLines(Path.of("README.md"))) {
            if (inside && text.equals("```")) {
                return;
            }
            if (inside && text.contains("rows.")) {
                told.add(text.trim());
            }
            inside = inside || text.equals("```java");
        }
    }
}
