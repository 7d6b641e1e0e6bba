import java.util.ArrayList;
import java.util.Arrays;
import java.util.List;
import java.util.Random;

/**
 * Long runs of calls, the same each time, against a model that is written straight from the
 * document's terms with texts and lists. Wild arguments are among them, so it also tells when the
 * Java machine throws.
 */
public final class HyphenRowsModel {
    private static final int RUNS = 3000;
    private static final int CALLS = 512;

    private static final int BAD = -1;
    private static final int FULL = -2;
    private static final int NO = -3;

    // What a run is mostly made of, so that each limit is met in some run.
    private static final int MIXED = 0;
    private static final int MANY_PATTERNS = 1;
    private static final int MANY_EXCEPTIONS = 2;
    private static final int LONG_WORDS = 3;
    private static final int KINDS = 4;

    private static int wrong = 0;
    private static int metPatternsFull = 0;
    private static int metExceptionsFull = 0;
    private static int metPlaces = 0;
    private static int metGreatDigits = 0;

    public static void main(String[] args) {
        for (int run = 0; run < RUNS && wrong < 20; run++) {
            new Run(run).go();
        }
        mustHaveMet("a full store of patterns", metPatternsFull);
        mustHaveMet("a full store of exceptions", metExceptionsFull);
        mustHaveMet("places", metPlaces);
        mustHaveMet("digits above 1", metGreatDigits);
        System.out.println(wrong == 0 ? "all answers are the model's" : wrong + " answers are not the model's");
        if (wrong != 0) {
            System.exit(1);
        }
    }

    private static void mustHaveMet(String what, int times) {
        if (times < 10) {
            wrong++;
            System.out.println("the runs met " + what + " only " + times + " times");
        }
    }

    private static final class ModelLanguage {
        final int[] letter = new int[256];
        final boolean[] capital = new boolean[256];
        int left = 2;
        int right = 3;
        boolean whole = false;
    }

    private static final class ModelPattern {
        int language;
        String row;
        String digits;
    }

    private static final class ModelException {
        int language;
        String letters;
        int places;
    }

    private static final class Model {
        final List<ModelLanguage> languages = new ArrayList<>();
        final List<ModelPattern> patterns = new ArrayList<>();
        final List<ModelException> exceptions = new ArrayList<>();
        String row = "";
        String digits = "";
        List<Integer> word = new ArrayList<>();
        List<Integer> places = new ArrayList<>();

        int language() {
            if (languages.size() == 4) {
                return FULL;
            }
            languages.add(new ModelLanguage());
            return languages.size() - 1;
        }

        boolean has(int language) {
            return within(language, 0, languages.size() - 1);
        }

        int code(int language, int sign, int letter, boolean capital) {
            if (!has(language) || !within(sign, 0, 255) || !within(letter, 0, 30)) {
                return BAD;
            }
            languages.get(language).letter[sign] = letter;
            languages.get(language).capital[sign] = capital;
            return 1;
        }

        int ends(int language, int left, int right, boolean capitals) {
            if (!has(language) || !within(left, 0, 20) || !within(right, 0, 20)) {
                return BAD;
            }
            languages.get(language).left = left;
            languages.get(language).right = right;
            languages.get(language).whole = capitals;
            return 1;
        }

        int next(int letter, int digit) {
            if (!within(letter, 0, 30) || !within(digit, 0, 9)) {
                return BAD;
            }
            if (row.length() == 12) {
                return FULL;
            }
            row += (char) letter;
            digits += (char) digit;
            return row.length();
        }

        int pattern(int language, int digit) {
            if (!has(language) || !within(digit, 0, 9)) {
                return BAD;
            }
            ModelPattern made = new ModelPattern();
            made.language = language;
            made.row = row;
            made.digits = digits + (char) digit;
            row = "";
            digits = "";
            boolean noLetter = made.row.chars().allMatch(c -> c == 0);
            if (noLetter || (made.row.length() > 2 && made.row.substring(1, made.row.length() - 1).indexOf(0) >= 0)) {
                return NO;
            }
            for (int i = 0; i < patterns.size(); i++) {
                if (patterns.get(i).language == language && patterns.get(i).row.equals(made.row)) {
                    patterns.set(i, made);
                    return i;
                }
            }
            int letters = patterns.stream().mapToInt(p -> p.row.length()).sum();
            if (patterns.size() == 150 || letters + made.row.length() > 900) {
                metPatternsFull++;
                return FULL;
            }
            patterns.add(made);
            return patterns.size() - 1;
        }

        int sign(int sign) {
            if (!within(sign, 0, 255)) {
                return BAD;
            }
            if (word.size() == 30) {
                return FULL;
            }
            word.add(sign);
            return word.size();
        }

        int clear() {
            int had = word.size();
            word = new ArrayList<>();
            return had;
        }

        /** The word's letters, or null when a sign has no code. */
        String letters(int language) {
            StringBuilder text = new StringBuilder();
            for (int sign : word) {
                text.append((char) languages.get(language).letter[sign]);
            }
            return text.indexOf("\0") >= 0 ? null : text.toString();
        }

        int told(int language, String letters) {
            for (int i = 0; i < exceptions.size(); i++) {
                if (exceptions.get(i).language == language && exceptions.get(i).letters.equals(letters)) {
                    return i;
                }
            }
            return -1;
        }

        int exception(int language, int places) {
            if (!has(language)) {
                return BAD;
            }
            String letters = letters(language);
            if (letters == null || letters.isEmpty()) {
                return NO;
            }
            int same = told(language, letters);
            if (same >= 0) {
                exceptions.get(same).places = places;
                return same;
            }
            if (exceptions.size() == 40) {
                metExceptionsFull++;
                return FULL;
            }
            ModelException made = new ModelException();
            made.language = language;
            made.letters = letters;
            made.places = places;
            exceptions.add(made);
            return exceptions.size() - 1;
        }

        int drop(int exception) {
            if (!within(exception, 0, exceptions.size() - 1)) {
                return BAD;
            }
            exceptions.remove(exception);
            return 1;
        }

        int digit(int language, int k) {
            if (!has(language) || !within(k, 0, word.size())) {
                return BAD;
            }
            String letters = letters(language);
            if (letters == null) {
                return 0;
            }
            int same = told(language, letters);
            if (same >= 0) {
                return (exceptions.get(same).places & (1 << k)) != 0 ? 1 : 0;
            }
            String whole = "\0" + letters + "\0";
            int greatest = 0;
            for (ModelPattern held : patterns) {
                for (int i = 0; held.language == language && i < held.digits.length(); i++) {
                    int start = k + 1 - i;
                    if (start >= 0 && whole.startsWith(held.row, start)) {
                        greatest = Math.max(greatest, held.digits.charAt(i));
                    }
                }
            }
            metGreatDigits += greatest > 1 ? 1 : 0;
            return greatest;
        }

        int run(int language) {
            if (!has(language)) {
                return BAD;
            }
            ModelLanguage asked = languages.get(language);
            places = new ArrayList<>();
            boolean whole = asked.whole && !word.isEmpty() && asked.capital[word.get(0)];
            if (!whole && letters(language) != null) {
                for (int k = Math.max(1, asked.left); k <= word.size() - Math.max(1, asked.right); k++) {
                    if (digit(language, k) % 2 != 0) {
                        places.add(k);
                    }
                }
            }
            metPlaces += places.size();
            return places.size();
        }

        int at(int i) {
            return within(i, 0, places.size() - 1) ? places.get(i) : -1;
        }

        private static boolean within(int value, int least, int most) {
            return value >= least && value <= most;
        }
    }

    private static final class Run {
        final int number;
        final int kind;
        final Random random;
        final HyphenRows real = new HyphenRows();
        final Model model = new Model();
        final int alphabet;
        int calls = 0;

        Run(int number) {
            this.number = number;
            this.kind = number % KINDS;
            this.random = new Random(number);
            this.alphabet = kind == MANY_PATTERNS ? 30 : 1 + random.nextInt(5);
        }

        void go() {
            int wanted = 1 + random.nextInt(5);
            for (int i = 0; i < (kind == MANY_PATTERNS ? 4 : wanted); i++) {
                language();
            }
            for (int language = 0; language < model.languages.size(); language++) {
                for (int letter = 1; letter <= Math.min(alphabet, 5); letter++) {
                    code(language, letter, 1 + random.nextInt(alphabet), random.nextInt(4) == 0);
                }
                if (random.nextBoolean()) {
                    ends(language, random.nextInt(3), random.nextInt(3), random.nextBoolean());
                }
            }
            while (calls < CALLS) {
                step();
            }
        }

        void step() {
            int dice = random.nextInt(100);
            switch (kind) {
                case MANY_PATTERNS:
                    if (dice < 95) {
                        makeNewPattern();
                        return;
                    }
                    break;
                case MANY_EXCEPTIONS:
                    if (dice < 80) {
                        makeException();
                        return;
                    }
                    break;
                case LONG_WORDS:
                    if (dice < 60) {
                        sign(goodSign());
                        return;
                    }
                    break;
                default:
                    break;
            }
            anyCall(random.nextInt(15));
        }

        void makePattern(int letters) {
            for (int i = 0; i < letters; i++) {
                boolean edge = (i == 0 || i == letters - 1) && random.nextInt(6) == 0;
                next(edge ? 0 : 1 + random.nextInt(alphabet), random.nextInt(10));
            }
            pattern(someLanguage(), random.nextInt(10));
        }

        /** Rows of one letter in each language, then of two: as many rows as the calls allow. */
        void makeNewPattern() {
            int rows = model.patterns.size();
            if (rows >= 120) {
                next(1 + rows % 30, random.nextInt(10));
            }
            next(1 + rows / 4 % 30, random.nextInt(10));
            pattern(rows % 4, random.nextInt(10));
        }

        void makeException() {
            if (random.nextInt(3) == 0) {
                clear();
            }
            sign(goodSign());
            exception(someLanguage(), random.nextInt());
        }

        void anyCall(int which) {
            switch (which) {
                case 0: language(); break;
                case 1: code(someLanguage(), some(256), some(31), random.nextBoolean()); break;
                case 2: code(someLanguage(), goodSign(), some(alphabet + 1), random.nextBoolean()); break;
                case 3: ends(someLanguage(), some(21), some(21), random.nextBoolean()); break;
                case 4: ends(someLanguage(), some(3), some(3), random.nextBoolean()); break;
                case 5: next(some(31), some(10)); break;
                case 6: pattern(someLanguage(), some(10)); break;
                case 7: makePattern(1 + random.nextInt(4)); break;
                case 8: sign(random.nextInt(8) == 0 ? some(256) : goodSign()); break;
                case 9: if (random.nextInt(4) == 0) { clear(); } else { sign(goodSign()); } break;
                case 10: exception(someLanguage(), random.nextInt()); break;
                case 11: drop(some(model.exceptions.size() + 1)); break;
                case 12: runAndAt(); break;
                case 13: digits(); break;
                default: counts(); break;
            }
        }

        /** Mostly 0 .. bound - 1, now and then beyond it, seldom far away. */
        int some(int bound) {
            int dice = random.nextInt(40);
            if (dice == 0) {
                return random.nextInt();
            }
            if (dice == 1) {
                return random.nextBoolean() ? Integer.MIN_VALUE : Integer.MAX_VALUE;
            }
            return dice == 2 ? -1 : dice == 3 ? bound : random.nextInt(bound);
        }

        int someLanguage() {
            return some(Math.max(1, model.languages.size()));
        }

        int goodSign() {
            return 1 + random.nextInt(Math.min(alphabet, 5));
        }

        void same(String call, int got, int want) {
            calls++;
            if (got != want) {
                wrong++;
                System.out.println("run " + number + ", call " + calls + ": " + call + " answered " + got
                        + ", due is " + want);
            }
        }

        void language() {
            same("language()", real.language(), model.language());
        }

        void code(int language, int sign, int letter, boolean capital) {
            same("code" + Arrays.asList(language, sign, letter, capital),
                    real.code(language, sign, letter, capital), model.code(language, sign, letter, capital));
        }

        void ends(int language, int left, int right, boolean capitals) {
            same("ends" + Arrays.asList(language, left, right, capitals),
                    real.ends(language, left, right, capitals), model.ends(language, left, right, capitals));
        }

        void next(int letter, int digit) {
            same("next" + Arrays.asList(letter, digit), real.next(letter, digit), model.next(letter, digit));
        }

        void pattern(int language, int digit) {
            same("pattern" + Arrays.asList(language, digit),
                    real.pattern(language, digit), model.pattern(language, digit));
        }

        void sign(int sign) {
            same("sign(" + sign + ")", real.sign(sign), model.sign(sign));
        }

        void clear() {
            same("clear()", real.clear(), model.clear());
        }

        void exception(int language, int places) {
            same("exception" + Arrays.asList(language, places),
                    real.exception(language, places), model.exception(language, places));
        }

        void drop(int exception) {
            same("drop(" + exception + ")", real.drop(exception), model.drop(exception));
        }

        void runAndAt() {
            int language = someLanguage();
            same("run(" + language + ")", real.run(language), model.run(language));
            for (int times = 0; times < 4; times++) {
                int i = some(model.places.size() + 1);
                same("at(" + i + ")", real.at(i), model.at(i));
            }
        }

        void digits() {
            int language = someLanguage();
            for (int times = 0; times < 4; times++) {
                int k = some(model.word.size() + 1);
                same("digit" + Arrays.asList(language, k), real.digit(language, k), model.digit(language, k));
            }
        }

        void counts() {
            same("patterns()", real.patterns(), model.patterns.size());
            same("exceptions()", real.exceptions(), model.exceptions.size());
            int i = some(5);
            same("at(" + i + ")", real.at(i), model.at(i));
        }
    }
}
