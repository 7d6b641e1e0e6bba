import java.util.ArrayList;
import java.util.Arrays;

/**
 * Places where words may be parted: patterns of letters with digits between them, for several
 * languages; the greatest digit at each place counts.
 */
public final class HyphenRows {
    public static final int BAD = -1;
    public static final int FULL = -2;
    public static final int NO = -3;

    private static final int MOST_LANGUAGES = 4;
    private static final int MOST_PATTERNS = 150;
    private static final int MOST_PATTERN_LETTERS = 900;
    private static final int MOST_EXCEPTIONS = 40;
    private static final int LONGEST_PATTERN = 12;
    private static final int LONGEST_WORD = 30;
    private static final int SIGNS = 256;
    private static final int LAST_LETTER = 30;
    private static final int LAST_DIGIT = 9;
    private static final int GREATEST_LEAST = 20;
    private static final int EDGE = 0;
    private static final int NO_LETTER = 0;
    private static final int NONE = -1;

    private static final class Language {
        final int[] letterOf = new int[SIGNS];
        final boolean[] isCapital = new boolean[SIGNS];
        int leastLeft = 2;
        int leastRight = 3;
        boolean capitalsWhole = false;
    }

    /** A row of letters and edges; digits[i] stands before letters[i], the last digit behind all. */
    private static final class Pattern {
        final int language;
        final int[] letters;
        final int[] digits;

        Pattern(int language, int[] letters, int[] digits) {
            this.language = language;
            this.letters = letters;
            this.digits = digits;
        }
    }

    /** A word that is an exception. It keeps letters, not signs: words are compared by letters. */
    private static final class ToldWord {
        final int language;
        final int[] letters;
        int places;

        ToldWord(int language, int[] letters, int places) {
            this.language = language;
            this.letters = letters;
            this.places = places;
        }
    }

    private final ArrayList<Language> languages = new ArrayList<>();
    private final ArrayList<Pattern> patterns = new ArrayList<>();
    private final ArrayList<ToldWord> exceptions = new ArrayList<>();
    private int patternLetters = 0;

    private final int[] madeLetters = new int[LONGEST_PATTERN];
    private final int[] madeDigits = new int[LONGEST_PATTERN + 1];
    private int made = 0;

    private final int[] word = new int[LONGEST_WORD];
    private int length = 0;

    // The word's letters in the language asked for, with an edge before and behind; and the digit
    // before each of them and behind the last one. Made anew by each call that needs them.
    private final int[] row = new int[LONGEST_WORD + 2];
    private final int[] rowDigits = new int[LONGEST_WORD + 3];

    // The places of the latest run(), kept while the word and the patterns change.
    private final int[] runPlaces = new int[LONGEST_WORD];
    private int runPlaceCount = 0;

    public HyphenRows() {
    }

    public int language() {
        if (languages.size() >= MOST_LANGUAGES) {
            return FULL;
        }
        languages.add(new Language());
        return languages.size() - 1;
    }

    public int code(int language, int sign, int letter, boolean capital) {
        if (!isLanguage(language) || !isSign(sign) || !isLetterOrZero(letter)) {
            return BAD;
        }
        Language changed = languages.get(language);
        changed.letterOf[sign] = letter;
        changed.isCapital[sign] = capital;
        return 1;
    }

    public int ends(int language, int left, int right, boolean capitals) {
        if (!isLanguage(language) || !isLeast(left) || !isLeast(right)) {
            return BAD;
        }
        Language changed = languages.get(language);
        changed.leastLeft = left;
        changed.leastRight = right;
        changed.capitalsWhole = capitals;
        return 1;
    }

    public int next(int letter, int digit) {
        if (!isLetterOrZero(letter) || !isDigit(digit)) {
            return BAD;
        }
        if (made >= LONGEST_PATTERN) {
            return FULL;
        }
        madeLetters[made] = letter;
        madeDigits[made] = digit;
        made++;
        return made;
    }

    public int pattern(int language, int digit) {
        if (!isLanguage(language) || !isDigit(digit)) {
            return BAD;
        }
        int count = made;
        made = 0;
        if (!isPatternRow(count)) {
            return NO;
        }
        madeDigits[count] = digit;
        int same = patternWithMadeRow(language, count);
        if (same != NONE) {
            System.arraycopy(madeDigits, 0, patterns.get(same).digits, 0, count + 1);
            return same;
        }
        return addPattern(language, count);
    }

    public int sign(int sign) {
        if (!isSign(sign)) {
            return BAD;
        }
        if (length >= LONGEST_WORD) {
            return FULL;
        }
        word[length] = sign;
        length++;
        return length;
    }

    public int clear() {
        int had = length;
        length = 0;
        return had;
    }

    public int exception(int language, int places) {
        if (!isLanguage(language)) {
            return BAD;
        }
        if (length == 0 || !spellWord(languages.get(language))) {
            return NO;
        }
        int same = exceptionWithWordsLetters(language);
        if (same != NONE) {
            exceptions.get(same).places = places;
            return same;
        }
        if (exceptions.size() >= MOST_EXCEPTIONS) {
            return FULL;
        }
        exceptions.add(new ToldWord(language, Arrays.copyOfRange(row, 1, length + 1), places));
        return exceptions.size() - 1;
    }

    public int drop(int exception) {
        if (exception < 0 || exception >= exceptions.size()) {
            return BAD;
        }
        exceptions.remove(exception);
        return 1;
    }

    public int run(int language) {
        if (!isLanguage(language)) {
            return BAD;
        }
        runPlaceCount = 0;
        Language asked = languages.get(language);
        if (staysWhole(asked) || !spellWord(asked)) {
            return 0;
        }
        findRowDigits(language);
        // No place lies before the first sign or behind the last one, even where LEAST is 0.
        for (int k = 1; k < length; k++) {
            boolean insideEnds = k >= asked.leastLeft && k <= length - asked.leastRight;
            if (insideEnds && rowDigits[k + 1] % 2 == 1) {
                runPlaces[runPlaceCount] = k;
                runPlaceCount++;
            }
        }
        return runPlaceCount;
    }

    public int at(int i) {
        if (i < 0 || i >= runPlaceCount) {
            return NONE;
        }
        return runPlaces[i];
    }

    public int digit(int language, int k) {
        if (!isLanguage(language) || k < 0 || k > length) {
            return BAD;
        }
        if (!spellWord(languages.get(language))) {
            return 0;
        }
        findRowDigits(language);
        // One further on, since the row begins with an edge.
        return rowDigits[k + 1];
    }

    public int patterns() {
        return patterns.size();
    }

    public int exceptions() {
        return exceptions.size();
    }

    private boolean isLanguage(int language) {
        return language >= 0 && language < languages.size();
    }

    private static boolean isSign(int sign) {
        return sign >= 0 && sign < SIGNS;
    }

    /** Zero is the edge in a pattern and no letter in a code. */
    private static boolean isLetterOrZero(int letter) {
        return letter >= 0 && letter <= LAST_LETTER;
    }

    private static boolean isDigit(int digit) {
        return digit >= 0 && digit <= LAST_DIGIT;
    }

    private static boolean isLeast(int least) {
        return least >= 0 && least <= GREATEST_LEAST;
    }

    /** Whether the made row has a letter, and edges at its two ends alone. */
    private boolean isPatternRow(int count) {
        boolean hasLetter = false;
        for (int i = 0; i < count; i++) {
            if (madeLetters[i] != EDGE) {
                hasLetter = true;
            } else if (i > 0 && i < count - 1) {
                return false;
            }
        }
        return hasLetter;
    }

    private int patternWithMadeRow(int language, int count) {
        for (int number = 0; number < patterns.size(); number++) {
            Pattern held = patterns.get(number);
            if (held.language == language && held.letters.length == count
                    && standsAt(held.letters, madeLetters, 0)) {
                return number;
            }
        }
        return NONE;
    }

    private int addPattern(int language, int count) {
        if (patterns.size() >= MOST_PATTERNS || count > MOST_PATTERN_LETTERS - patternLetters) {
            return FULL;
        }
        int[] letters = Arrays.copyOf(madeLetters, count);
        int[] digits = Arrays.copyOf(madeDigits, count + 1);
        patterns.add(new Pattern(language, letters, digits));
        patternLetters += count;
        return patterns.size() - 1;
    }

    private boolean staysWhole(Language language) {
        return length > 0 && language.capitalsWhole && language.isCapital[word[0]];
    }

    /** Writes the word's letters and edges into the row; false when a sign has no code. */
    private boolean spellWord(Language language) {
        row[0] = EDGE;
        for (int i = 0; i < length; i++) {
            int letter = language.letterOf[word[i]];
            if (letter == NO_LETTER) {
                return false;
            }
            row[i + 1] = letter;
        }
        row[length + 1] = EDGE;
        return true;
    }

    /** The exception with the letters that stand in the row now. */
    private int exceptionWithWordsLetters(int language) {
        for (int number = 0; number < exceptions.size(); number++) {
            ToldWord held = exceptions.get(number);
            if (held.language == language && held.letters.length == length
                    && standsAt(held.letters, row, 1)) {
                return number;
            }
        }
        return NONE;
    }

    /** Needs the row spelled in the same language. */
    private void findRowDigits(int language) {
        Arrays.fill(rowDigits, 0);
        int told = exceptionWithWordsLetters(language);
        if (told != NONE) {
            takeToldPlaces(exceptions.get(told).places);
            return;
        }
        for (int number = 0; number < patterns.size(); number++) {
            Pattern held = patterns.get(number);
            if (held.language == language) {
                layOverRow(held);
            }
        }
    }

    private void takeToldPlaces(int toldPlaces) {
        for (int k = 0; k <= length; k++) {
            rowDigits[k + 1] = (toldPlaces >>> k) & 1;
        }
    }

    /** Raises the digits of the row wherever the pattern stands in it. */
    private void layOverRow(Pattern pattern) {
        int lastStart = length + 2 - pattern.letters.length;
        for (int start = 0; start <= lastStart; start++) {
            if (standsAt(pattern.letters, row, start)) {
                raiseDigits(pattern.digits, start);
            }
        }
    }

    private void raiseDigits(int[] digits, int start) {
        for (int i = 0; i < digits.length; i++) {
            rowDigits[start + i] = Math.max(rowDigits[start + i], digits[i]);
        }
    }

    private static boolean standsAt(int[] letters, int[] within, int start) {
        if (start < 0 || start > within.length - letters.length) {
            return false;
        }
        for (int i = 0; i < letters.length; i++) {
            if (within[start + i] != letters[i]) {
                return false;
            }
        }
        return true;
    }
}
