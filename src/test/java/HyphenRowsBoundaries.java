import java.util.Arrays;

/**
 * Each sentence of the document that names a boundary, by itself and in the document's order: the
 * value on each side, the answer of the call, and what later calls show of the state behind it.
 */
public final class HyphenRowsBoundaries {
    private static final int BAD = -1;
    private static final int FULL = -2;
    private static final int NO = -3;
    private static final int NO_PLACE = -1;
    private static final int MOST_CALLS = 512;

    // Outside every range of the document; some would be inside one if they were cut to fewer bits.
    private static final int[] OUTSIDE = {
        Integer.MIN_VALUE, Integer.MIN_VALUE + 1, -65536, -256, -255, -1, 256, 257, 65536, 65537,
        Integer.MAX_VALUE - 1, Integer.MAX_VALUE,
    };

    private static final String THIRTY = "aaaaaaaaaaaaaaaaaaaaaaaaaaaaaa";

    private static int wrong = 0;
    private static int asked = 0;
    private static String sentence = "";
    private static String latestCall = "";

    public static void main(String[] args) {
        whatItIs();
        face();
        terms();
        newObject();
        language();
        code();
        ends();
        next();
        pattern();
        sign();
        clear();
        exception();
        drop();
        run();
        at();
        digit();
        patterns();
        exceptions();
        System.out.println(wrong == 0
                ? "all " + asked + " answers at the boundaries are as due"
                : wrong + " of " + asked + " answers at the boundaries are not as due");
        if (wrong != 0) {
            System.exit(1);
        }
    }

    // ---- how it is told ------------------------------------------------------------------------

    private static void says(String heading, String words) {
        sentence = heading + ", \"" + words + "\"";
    }

    private static void due(int want, int got) {
        asked++;
        if (got != want) {
            wrong++;
            System.out.println(sentence + ": " + latestCall + " answered " + got + ", due is " + want);
        }
    }

    /** An object that counts its calls: answers beyond the 512th are free, so none is tested. */
    private static final class Rows {
        private final HyphenRows real = new HyphenRows();
        private int most = MOST_CALLS;
        private int calls = 0;

        private int told(int answer, String name, Object... arguments) {
            calls++;
            latestCall = "call " + calls + ", " + name + Arrays.asList(arguments);
            if (calls > most) {
                throw new IllegalStateException("the test itself is wrong: too many calls at " + sentence);
            }
            return answer;
        }

        int language() {
            return told(real.language(), "language");
        }

        int code(int language, int sign, int letter, boolean capital) {
            return told(real.code(language, sign, letter, capital), "code", language, sign, letter, capital);
        }

        int ends(int language, int left, int right, boolean capitals) {
            return told(real.ends(language, left, right, capitals), "ends", language, left, right, capitals);
        }

        int next(int letter, int digit) {
            return told(real.next(letter, digit), "next", letter, digit);
        }

        int pattern(int language, int digit) {
            return told(real.pattern(language, digit), "pattern", language, digit);
        }

        int sign(int sign) {
            return told(real.sign(sign), "sign", sign);
        }

        int clear() {
            return told(real.clear(), "clear");
        }

        int exception(int language, int places) {
            return told(real.exception(language, places), "exception", language, places);
        }

        int drop(int exception) {
            return told(real.drop(exception), "drop", exception);
        }

        int run(int language) {
            return told(real.run(language), "run", language);
        }

        int at(int i) {
            return told(real.at(i), "at", i);
        }

        int digit(int language, int k) {
            return told(real.digit(language, k), "digit", language, k);
        }

        int patterns() {
            return told(real.patterns(), "patterns");
        }

        int exceptions() {
            return told(real.exceptions(), "exceptions");
        }
    }

    /** One language, as it is at first but for the signs a, b, c .. of the letters 1, 2, 3 .. */
    private static Rows fresh(int letters) {
        Rows x = new Rows();
        addLanguage(x, letters);
        return x;
    }

    /** The same with ends that allow every place between two signs. */
    private static Rows open(int letters) {
        Rows x = fresh(letters);
        x.ends(0, 1, 1, false);
        return x;
    }

    private static int addLanguage(Rows x, int letters) {
        int language = x.language();
        for (int i = 0; i < letters; i++) {
            x.code(language, 'a' + i, i + 1, false);
        }
        return language;
    }

    private static void word(Rows x, String text) {
        x.clear();
        more(x, text);
    }

    private static void more(Rows x, String text) {
        for (int i = 0; i < text.length(); i++) {
            x.sign(text.charAt(i));
        }
    }

    /** A pattern as hyphenation files write it: letters, '.' for an edge, digits where not 0. */
    private static int pattern(Rows x, int language, String text) {
        return x.pattern(language, make(x, text));
    }

    /** Makes all but the digit behind the last letter, which it answers. */
    private static int make(Rows x, String text) {
        int digit = 0;
        for (int i = 0; i < text.length(); i++) {
            char c = text.charAt(i);
            if (c >= '0' && c <= '9') {
                digit = c - '0';
            } else {
                x.next(c == '.' ? 0 : c - 'a' + 1, digit);
                digit = 0;
            }
        }
        return digit;
    }

    private static void dueDigits(Rows x, int language, String want) {
        due(BAD, x.digit(language, -1));
        for (int k = 0; k < want.length(); k++) {
            due(want.charAt(k) - '0', x.digit(language, k));
        }
        due(BAD, x.digit(language, want.length()));
    }

    private static void duePlaces(Rows x, int language, int... want) {
        due(want.length, x.run(language));
        due(NO_PLACE, x.at(-1));
        for (int i = 0; i < want.length; i++) {
            due(want[i], x.at(i));
        }
        due(NO_PLACE, x.at(want.length));
    }

    /** Every call that takes a language refuses this one. */
    private static void dueNoLanguage(Rows x, int language) {
        due(BAD, x.code(language, 'a', 1, false));
        due(BAD, x.ends(language, 1, 1, false));
        due(BAD, x.pattern(language, 0));
        due(BAD, x.exception(language, 0));
        due(BAD, x.run(language));
        due(BAD, x.digit(language, 0));
    }

    // ---- What it is, The public face -----------------------------------------------------------

    private static void whatItIs() {
        says("What it is", "An object is used for at most 512 calls after it has been made");
        Rows x = open(2);
        pattern(x, 0, "a1b");
        word(x, "ab");
        while (x.calls < MOST_CALLS - 2) {
            due(1, x.digit(0, 1));
        }
        due(1, x.run(0));
        due(1, x.at(0));
    }

    private static void face() {
        says("The public face", "BAD = -1; FULL = -2; NO = -3");
        latestCall = "the constant";
        due(-1, HyphenRows.BAD);
        due(-2, HyphenRows.FULL);
        due(-3, HyphenRows.NO);
    }

    // ---- Terms ---------------------------------------------------------------------------------

    private static void terms() {
        languagesAreFour();
        lettersAreThirty();
        nextLettersAreThirty();
        noughtIsTheEdge();
        signsHaveNoCodeAtFirst();
        eachSignHasItsOwnCode();
        leastEndsAtFirst();
        leastEndsRange();
        capitalsAtFirst();
        patternLength();
        patternEdges();
        patternDigitRange();
        patternsInOneLanguage();
        patternsInAllLanguages();
        patternLettersTogether();
        sameRowIsOne();
        sameRowOfAnotherLanguage();
        longestWord();
        edgesOfTheRow();
        patternLongerThanTheWord();
        greatestDigitCounts();
        noughtWithoutAPattern();
        exceptionInstead();
        placesFromLeastLeft();
        placesToLeastRight();
        placesWhereBothEndsMeet();
        placesWhereTheDigitIsOdd();
        noPlacesWithoutACode();
        noPlacesBehindACapital();
    }

    private static void languagesAreFour() {
        says("Terms", "LANGUAGES are numbered from 0, at most 4.");
        Rows x = new Rows();
        for (int i = 0; i < 4; i++) {
            dueNoLanguage(x, i);
            due(i, x.language());
            due(1, x.code(i, 'a', 1, false));
            due(1, x.ends(i, 1, 1, false));
            due(NO, x.pattern(i, 0));
            due(NO, x.exception(i, 0));
            due(0, x.run(i));
            due(0, x.digit(i, 0));
        }
        due(FULL, x.language());
        dueNoLanguage(x, 4);
        for (int i = 0; i < 4; i++) {
            due(i, pattern(x, i, "1a"));
        }
        word(x, "aa");
        for (int i = 0; i < 4; i++) {
            duePlaces(x, i, 1);
        }
        for (int outside : OUTSIDE) {
            dueNoLanguage(x, outside);
        }
    }

    private static void lettersAreThirty() {
        says("Terms", "LETTERS are 1 .. 30 (code)");
        Rows x = new Rows();
        x.language();
        for (int i = 1; i <= 30; i++) {
            due(1, x.code(0, 100 + i, i, false));
            x.next(i, i % 9 + 1);
            due(i - 1, x.pattern(0, 0));
        }
        for (int i = 1; i <= 30; i++) {
            x.sign(100 + i);
        }
        for (int i = 1; i <= 30; i++) {
            due(i % 9 + 1, x.digit(0, i - 1));
        }
        due(BAD, x.code(0, 130, 31, false));
        due(BAD, x.code(0, 101, -1, false));
        for (int outside : OUTSIDE) {
            due(BAD, x.code(0, 101, outside, false));
        }
        due(2, x.digit(0, 0));
        due(4, x.digit(0, 29));
    }

    private static void nextLettersAreThirty() {
        says("Terms", "LETTERS are 1 .. 30 (next)");
        Rows x = new Rows();
        x.language();
        x.code(0, 'a', 1, false);
        x.code(0, 'z', 30, false);
        due(BAD, x.next(-1, 0));
        due(BAD, x.next(31, 0));
        due(1, x.next(1, 5));
        due(2, x.next(30, 6));
        due(BAD, x.next(-1, 0));
        due(BAD, x.next(31, 0));
        for (int outside : OUTSIDE) {
            due(BAD, x.next(outside, 0));
        }
        due(0, x.pattern(0, 7));
        word(x, "az");
        dueDigits(x, 0, "567");
    }

    private static void noughtIsTheEdge() {
        says("Terms", "0 is THE EDGE of a word");
        Rows x = open(2);
        due(1, x.next(0, 0));
        due(2, x.next(1, 1));
        due(0, x.pattern(0, 2));
        word(x, "aaba");
        dueDigits(x, 0, "12000");
        // A sign told to be 0 is none, not an edge.
        due(1, x.code(0, '-', 0, false));
        word(x, "b-ab");
        dueDigits(x, 0, "00000");
    }

    private static void signsHaveNoCodeAtFirst() {
        says("Terms", "a CODE for each SIGN 0 .. 255: a letter, or none (at first none for all)");
        for (int sign = 0; sign <= 255; sign++) {
            Rows x = new Rows();
            x.language();
            x.language();
            due(1, x.sign(sign));
            due(NO, x.exception(0, 0));
            due(NO, x.exception(1, 0));
            due(1, x.code(0, sign, 1, false));
            due(NO, x.exception(1, 0));
            due(0, x.exception(0, 0));
        }
    }

    /** In blocks of thirty signs, since a word has no more. */
    private static void eachSignHasItsOwnCode() {
        says("Terms", "Each language has a CODE for each SIGN 0 .. 255");
        for (int first = 0; first <= 255; first += 30) {
            Rows x = new Rows();
            x.language();
            for (int letter = 1; letter <= 9; letter++) {
                x.next(letter, letter);
                x.pattern(0, 0);
            }
            for (int sign = 0; sign <= 255; sign++) {
                due(1, x.code(0, sign, letterForSign(sign), false));
            }
            due(BAD, x.code(0, -1, 1, false));
            due(BAD, x.code(0, 256, 1, false));
            int last = Math.min(first + 29, 255);
            for (int sign = first; sign <= last; sign++) {
                x.sign(sign);
            }
            for (int sign = first; sign <= last; sign++) {
                due(letterForSign(sign), x.digit(0, sign - first));
            }
        }
    }

    private static int letterForSign(int sign) {
        return 1 + (sign + sign / 9 + sign / 81) % 9;
    }

    private static void leastEndsAtFirst() {
        says("Terms", "LEAST ends, left and right (2 and 3 at first)");
        Rows x = fresh(1);
        addLanguage(x, 1);
        for (int language = 0; language < 2; language++) {
            pattern(x, language, "1a1");
            word(x, "aaaa");
            duePlaces(x, language);
            more(x, "a");
            duePlaces(x, language, 2);
            more(x, "a");
            duePlaces(x, language, 2, 3);
        }
    }

    private static void leastEndsRange() {
        says("Terms", "LEAST ends, 0 .. 20");
        Rows x = fresh(1);
        pattern(x, 0, "1a1");
        word(x, THIRTY);
        due(1, x.ends(0, 20, 0, false));
        duePlaces(x, 0, 20, 21, 22, 23, 24, 25, 26, 27, 28, 29);
        due(BAD, x.ends(0, 21, 0, false));
        due(BAD, x.ends(0, -1, 0, false));
        duePlaces(x, 0, 20, 21, 22, 23, 24, 25, 26, 27, 28, 29);
        due(1, x.ends(0, 0, 20, false));
        duePlaces(x, 0, 1, 2, 3, 4, 5, 6, 7, 8, 9, 10);
        due(BAD, x.ends(0, 0, 21, false));
        due(BAD, x.ends(0, 0, -1, false));
        for (int outside : OUTSIDE) {
            due(BAD, x.ends(0, outside, 0, false));
            due(BAD, x.ends(0, 0, outside, false));
        }
        duePlaces(x, 0, 1, 2, 3, 4, 5, 6, 7, 8, 9, 10);
        due(1, x.ends(0, 20, 20, false));
        duePlaces(x, 0);
        due(1, x.ends(0, 0, 0, false));
        due(29, x.run(0));
    }

    private static void capitalsAtFirst() {
        says("Terms", "whether CAPITALS are left whole (at first not): a sign may be a capital one");
        Rows x = fresh(1);
        pattern(x, 0, "1a1");
        x.code(0, 'A', 1, true);
        word(x, "Aaaaa");
        duePlaces(x, 0, 2);
        due(1, x.ends(0, 2, 3, true));
        duePlaces(x, 0);
        word(x, "aaaaa");
        duePlaces(x, 0, 2);
        addLanguage(x, 1);
        pattern(x, 1, "1a1");
        x.code(1, 'A', 1, true);
        word(x, "Aaaaa");
        duePlaces(x, 1, 2);
    }

    private static void patternLength() {
        says("Terms", "A PATTERN is a row of 1 .. 12 of letters and edges");
        Rows x = open(12);
        due(NO, x.pattern(0, 1));
        due(0, pattern(x, 0, "1a2"));
        due(1, pattern(x, 0, "1a2b3c4d5e6f7g8h9i8j7k6l5"));
        word(x, "abcdefghijkl");
        dueDigits(x, 0, "1234567898765");
        // Eleven letters of it do not do, and a thirteenth of the row is never there.
        word(x, "abcdefghijk");
        dueDigits(x, 0, "120000000000");
        due(2, pattern(x, 0, ".9aaaaaaaaaaa"));
        word(x, "aaaaaaaaaaa");
        dueDigits(x, 0, "922222222222");
        due(3, pattern(x, 0, ".aaaaaaaaaa9."));
        word(x, "aaaaaaaaaa");
        dueDigits(x, 0, "12222222229");
    }

    private static void patternEdges() {
        says("Terms", "an edge first or last alone");
        Rows x = open(2);
        due(0, pattern(x, 0, ".3a"));
        due(1, pattern(x, 0, "a5."));
        due(2, pattern(x, 0, ".7b7."));
        due(NO, pattern(x, 0, "a9.9b"));
        due(NO, pattern(x, 0, ".9.9a"));
        due(NO, pattern(x, 0, "a9.9."));
        due(NO, pattern(x, 0, ".a9.9a."));
        due(3, x.patterns());
        word(x, "aba");
        dueDigits(x, 0, "3005");
        word(x, "b");
        dueDigits(x, 0, "77");
        word(x, "bb");
        dueDigits(x, 0, "000");
    }

    private static void patternDigitRange() {
        says("Terms", "with a DIGIT 0 .. 9 before each of them and behind the last one");
        Rows x = open(1);
        due(BAD, x.next(1, -1));
        due(BAD, x.next(1, 10));
        due(1, x.next(1, 0));
        due(2, x.next(1, 9));
        for (int outside : OUTSIDE) {
            due(BAD, x.next(1, outside));
            due(BAD, x.pattern(0, outside));
        }
        due(BAD, x.pattern(0, -1));
        due(BAD, x.pattern(0, 10));
        due(0, x.pattern(0, 9));
        word(x, "aa");
        dueDigits(x, 0, "099");
        x.next(1, 9);
        x.next(1, 0);
        due(0, x.pattern(0, 0));
        dueDigits(x, 0, "900");
    }

    /** Thirty rows of one letter and 120 of two, since 150 longer ones take more than 512 calls. */
    private static void patternsInOneLanguage() {
        says("Terms", "There are at most 150 in all (of one language)");
        Rows x = new Rows();
        x.language();
        x.code(0, 'a', 30, false);
        x.code(0, 'b', 4, false);
        x.code(0, 'c', 5, false);
        for (int letter = 1; letter <= 30; letter++) {
            x.next(letter, 0);
            due(letter - 1, x.pattern(0, 0));
        }
        for (int i = 0; i < 120; i++) {
            x.next(30 - i % 30, 0);
            x.next(1 + i / 30, 3);
            due(30 + i, x.pattern(0, 0));
        }
        due(150, x.patterns());
        x.next(30, 0);
        x.next(5, 7);
        due(FULL, x.pattern(0, 0));
        due(150, x.patterns());
        word(x, "acab");
        dueDigits(x, 0, "00030");
    }

    private static void patternsInAllLanguages() {
        says("Terms", "There are at most 150 in all (of four languages)");
        Rows x = new Rows();
        for (int language = 0; language < 4; language++) {
            x.language();
            for (int letter = 1; letter <= 30; letter++) {
                x.next(letter, 0);
                due(30 * language + letter - 1, x.pattern(language, 0));
            }
        }
        for (int letter = 1; letter <= 30; letter++) {
            due(119 + letter, x.patterns());
            x.next(letter, 0);
            x.next(0, 6);
            due(119 + letter, x.pattern(letter % 4, 0));
        }
        due(150, x.patterns());
        for (int language = 0; language < 4; language++) {
            x.next(0, 8);
            x.next(30, 8);
            due(FULL, x.pattern(language, 8));
        }
        due(150, x.patterns());
        x.code(2, 'a', 30, false);
        word(x, "a");
        dueDigits(x, 2, "06");
    }

    /**
     * No object meets this limit in 512 calls, for each letter takes a call. The class holds it all
     * the same, so this test alone goes on beyond them.
     */
    private static void patternLettersTogether() {
        says("Terms", "with at most 900 letters and edges together");
        Rows x = open(2);
        x.most = 2000;
        for (int i = 0; i < 74; i++) {
            due(i, rowOfTwelve(x, i));
        }
        due(74, pattern(x, 0, ".aaaaaaaaaa"));
        // 899 are there now: there is room for a row of one, not for a row of two.
        due(FULL, pattern(x, 0, "7a7b7"));
        due(FULL, pattern(x, 0, "7.7b7"));
        due(75, x.patterns());
        // Rows that are there already take no more room, before and behind the limit.
        due(74, pattern(x, 0, ".aaaaaaaaaa"));
        due(75, pattern(x, 0, "4b"));
        due(FULL, pattern(x, 0, "7a7"));
        due(76, x.patterns());
        word(x, "ab");
        dueDigits(x, 0, "040");
        due(75, pattern(x, 0, "2b"));
        due(74, pattern(x, 0, ".aaaaaaaaaa"));
        due(73, rowOfTwelve(x, 73));
        dueDigits(x, 0, "020");
        due(76, x.patterns());
    }

    /** Another row for each number below 128: its seven bits as letters, and five letters more. */
    private static int rowOfTwelve(Rows x, int number) {
        for (int bit = 0; bit < 7; bit++) {
            x.next(1 + (number >> bit & 1), 0);
        }
        for (int i = 0; i < 5; i++) {
            x.next(1, 0);
        }
        return x.pattern(0, 0);
    }

    private static void sameRowIsOne() {
        says("Terms", "two of a language with the same row are one: the later one's digits count");
        Rows x = open(2);
        word(x, "ab");
        due(0, pattern(x, 0, "9a8b7"));
        due(1, pattern(x, 0, ".1a"));
        dueDigits(x, 0, "987");
        due(0, pattern(x, 0, "0a1b2"));
        dueDigits(x, 0, "112");
        due(0, pattern(x, 0, "ab"));
        dueDigits(x, 0, "100");
        due(2, x.patterns());
        // One letter or edge more or less, or another one, is another row.
        due(2, pattern(x, 0, "a"));
        due(3, pattern(x, 0, ".ab"));
        due(4, pattern(x, 0, "ab."));
        due(5, pattern(x, 0, "aba"));
        due(6, pattern(x, 0, "aa"));
        due(7, pattern(x, 0, "b"));
        due(8, x.patterns());
    }

    private static void sameRowOfAnotherLanguage() {
        says("Terms", "two of a language with the same row (of another language)");
        Rows x = open(2);
        addLanguage(x, 2);
        due(0, pattern(x, 0, "1a1b1"));
        due(1, pattern(x, 1, "2a2b2"));
        word(x, "ab");
        dueDigits(x, 0, "111");
        dueDigits(x, 1, "222");
        due(1, pattern(x, 1, "4a4b4"));
        dueDigits(x, 0, "111");
        dueDigits(x, 1, "444");
        due(2, x.patterns());
    }

    private static void longestWord() {
        says("Terms", "A WORD is a row of at most 30 signs.");
        Rows x = open(2);
        pattern(x, 0, "a1b2.");
        word(x, THIRTY.substring(2));
        due(29, x.sign('a'));
        due(30, x.sign('b'));
        due(FULL, x.sign('b'));
        duePlaces(x, 0, 29);
        due(2, x.digit(0, 30));
        due(BAD, x.digit(0, 31));
        due(30, x.clear());
    }

    private static void edgesOfTheRow() {
        says("Terms", "it has the row of its letters with an edge before and behind");
        Rows x = open(1);
        due(0, pattern(x, 0, "9.3a"));
        due(1, pattern(x, 0, "a4.9"));
        word(x, "a");
        dueDigits(x, 0, "34");
        word(x, "aaa");
        dueDigits(x, 0, "3004");
        due(2, pattern(x, 0, "8.5a6a7.8"));
        dueDigits(x, 0, "3004");
        word(x, "aa");
        dueDigits(x, 0, "567");
    }

    private static void patternLongerThanTheWord() {
        says("Terms", "that stands anywhere in the row (a pattern longer than the word)");
        Rows x = open(2);
        pattern(x, 0, "9a9a9a9b9");
        word(x, "aaab");
        dueDigits(x, 0, "99999");
        // What an earlier, longer word had behind the end of this one is not there.
        word(x, "aaa");
        dueDigits(x, 0, "0000");
        word(x, "");
        dueDigits(x, 0, "0");
        word(x, "a");
        dueDigits(x, 0, "00");
        more(x, "aab");
        dueDigits(x, 0, "99999");
        // Nor does anything stand behind the last edge.
        pattern(x, 0, "7.7b");
        word(x, "aab");
        dueDigits(x, 0, "0000");
        word(x, "a");
        dueDigits(x, 0, "00");
    }

    private static void greatestDigitCounts() {
        says("Terms", "its DIGIT is the greatest that any pattern has there");
        Rows x = open(2);
        word(x, "ab");
        pattern(x, 0, "a8b");
        pattern(x, 0, "a7");
        duePlaces(x, 0);
        dueDigits(x, 0, "080");
        pattern(x, 0, "9b");
        duePlaces(x, 0, 1);
        dueDigits(x, 0, "090");
        pattern(x, 0, ".a8b");
        dueDigits(x, 0, "090");
        // The same pattern may stand over itself.
        Rows y = open(1);
        pattern(y, 0, "1a3a2");
        word(y, "aaaa");
        dueDigits(y, 0, "13332");
    }

    private static void noughtWithoutAPattern() {
        says("Terms", "0 when there is none");
        Rows x = open(2);
        word(x, "ab");
        dueDigits(x, 0, "000");
        duePlaces(x, 0);
        pattern(x, 0, "9b9a9");
        dueDigits(x, 0, "000");
        duePlaces(x, 0);
    }

    private static void exceptionInstead() {
        says("Terms", "an EXCEPTION of the language has just the digits 1 and 0 told with it instead");
        Rows x = open(3);
        addLanguage(x, 3);
        x.code(0, 'B', 2, true);
        pattern(x, 0, "9a9b9c9");
        pattern(x, 1, "9a9b9c9");
        word(x, "abc");
        due(0, x.exception(0, 1 << 1));
        dueDigits(x, 0, "0100");
        duePlaces(x, 0, 1);
        dueDigits(x, 1, "9999");
        // The letters count, not the signs; one letter more or less is another word.
        word(x, "aBc");
        dueDigits(x, 0, "0100");
        word(x, "abca");
        dueDigits(x, 0, "99990");
        word(x, "aabc");
        dueDigits(x, 0, "09999");
        word(x, "ab");
        dueDigits(x, 0, "000");
        pattern(x, 0, "5a5b5");
        dueDigits(x, 0, "555");
    }

    private static void placesFromLeastLeft() {
        says("Terms", "k from LEAST left (1 at least)");
        Rows x = fresh(1);
        pattern(x, 0, "1a1");
        word(x, "aaaa");
        x.ends(0, 0, 1, false);
        dueDigits(x, 0, "11111");
        duePlaces(x, 0, 1, 2, 3);
        x.ends(0, 1, 1, false);
        duePlaces(x, 0, 1, 2, 3);
        x.ends(0, 2, 1, false);
        duePlaces(x, 0, 2, 3);
        x.ends(0, 3, 1, false);
        duePlaces(x, 0, 3);
        x.ends(0, 4, 1, false);
        duePlaces(x, 0);
    }

    private static void placesToLeastRight() {
        says("Terms", "to its length less LEAST right (1 at least)");
        Rows x = fresh(1);
        pattern(x, 0, "1a1");
        word(x, "aaaa");
        x.ends(0, 1, 0, false);
        dueDigits(x, 0, "11111");
        duePlaces(x, 0, 1, 2, 3);
        x.ends(0, 1, 1, false);
        duePlaces(x, 0, 1, 2, 3);
        x.ends(0, 1, 2, false);
        duePlaces(x, 0, 1, 2);
        x.ends(0, 1, 3, false);
        duePlaces(x, 0, 1);
        x.ends(0, 1, 4, false);
        duePlaces(x, 0);
        x.ends(0, 1, 20, false);
        duePlaces(x, 0);
    }

    private static void placesWhereBothEndsMeet() {
        says("Terms", "k from LEAST left to its length less LEAST right");
        Rows x = fresh(1);
        pattern(x, 0, "1a1");
        word(x, "aaaaa");
        x.ends(0, 2, 2, false);
        duePlaces(x, 0, 2, 3);
        x.ends(0, 3, 2, false);
        duePlaces(x, 0, 3);
        x.ends(0, 3, 3, false);
        duePlaces(x, 0);
        x.ends(0, 0, 0, false);
        word(x, "a");
        dueDigits(x, 0, "11");
        duePlaces(x, 0);
        more(x, "a");
        duePlaces(x, 0, 1);
    }

    private static void placesWhereTheDigitIsOdd() {
        says("Terms", "where the digit between signs k - 1 and k is odd");
        Rows x = open(2);
        word(x, "ab");
        for (int digit = 0; digit <= 9; digit++) {
            x.next(1, 0);
            x.next(2, digit);
            due(0, x.pattern(0, 0));
            due(digit, x.digit(0, 1));
            due(digit % 2, x.run(0));
            due(digit % 2 == 1 ? 1 : NO_PLACE, x.at(0));
        }
        // The digits before and behind the word are no places, odd as they are.
        pattern(x, 0, "9a2b9");
        dueDigits(x, 0, "929");
        duePlaces(x, 0);
    }

    private static void noPlacesWithoutACode() {
        says("Terms", "A word with a sign that has no code has none");
        Rows x = open(1);
        pattern(x, 0, "1a1");
        for (String text : new String[] {"-aa", "a-a", "aa-", "-", "---"}) {
            word(x, text);
            duePlaces(x, 0);
        }
        word(x, "aa-");
        x.code(0, '-', 1, false);
        duePlaces(x, 0, 1, 2);
        x.code(0, '-', 0, false);
        duePlaces(x, 0);
    }

    private static void noPlacesBehindACapital() {
        says("Terms", "one whose first sign is a capital has none, where capitals are left whole");
        Rows x = open(1);
        x.code(0, 'A', 1, true);
        pattern(x, 0, "1a1");
        word(x, "Aaa");
        duePlaces(x, 0, 1, 2);
        x.ends(0, 1, 1, true);
        duePlaces(x, 0);
        dueDigits(x, 0, "1111");
        word(x, "aAA");
        duePlaces(x, 0, 1, 2);
        word(x, "AAA");
        duePlaces(x, 0);
        due(0, x.exception(0, -1));
        duePlaces(x, 0);
        x.ends(0, 1, 1, false);
        duePlaces(x, 0, 1, 2);
    }

    // ---- Promises ------------------------------------------------------------------------------

    private static void newObject() {
        says("Promise 1", "No languages; the word has no signs.");
        Rows x = new Rows();
        dueNoLanguage(x, 0);
        dueNoLanguage(x, 1);
        due(0, x.patterns());
        due(0, x.exceptions());
        due(NO_PLACE, x.at(0));
        due(BAD, x.drop(0));
        due(0, x.clear());
        due(1, x.next(1, 0));
        due(1, x.sign(0));
        due(0, x.language());
    }

    private static void language() {
        says("Promise 2", "A language more: its number. FULL.");
        Rows x = new Rows();
        for (int i = 0; i < 4; i++) {
            due(i, addLanguage(x, 1));
            x.ends(i, 1, 1, true);
            pattern(x, i, "1a");
        }
        due(FULL, x.language());
        due(FULL, x.language());
        // The four are as they were.
        word(x, "aa");
        for (int i = 0; i < 4; i++) {
            duePlaces(x, i, 1);
            due(1, x.code(i, 'a', 1, true));
            duePlaces(x, i);
        }
        due(BAD, x.run(4));
        due(BAD, x.run(5));
    }

    private static void code() {
        says("Promise 3", "A sign is a letter (1 .. 30) of a language, or (0) none: 1. BAD.");
        Rows x = open(2);
        pattern(x, 0, "a1b");
        pattern(x, 0, "a1d");
        x.next(1, 0);
        x.next(30, 5);
        x.pattern(0, 0);
        word(x, "ab");
        duePlaces(x, 0, 1);
        due(1, x.code(0, 'b', 0, false));
        duePlaces(x, 0);
        due(1, x.code(0, 'b', 1, false));
        duePlaces(x, 0);
        due(1, x.code(0, 'b', 30, false));
        due(5, x.digit(0, 1));
        due(BAD, x.code(0, 'b', 31, false));
        due(BAD, x.code(0, 'b', -1, false));
        due(5, x.digit(0, 1));
        codeRefused();
        codeOfSigns();
        codeOfCapitals();
    }

    private static void codeRefused() {
        says("Promise 3", "BAD (nothing is changed)");
        Rows x = open(1);
        addLanguage(x, 0);
        pattern(x, 0, "1a1");
        x.ends(0, 1, 1, true);
        word(x, "aa");
        for (int outside : OUTSIDE) {
            due(BAD, x.code(outside, 'a', 2, true));
            due(BAD, x.code(0, outside, 2, true));
            due(BAD, x.code(0, 'a', outside, true));
        }
        due(BAD, x.code(2, 'a', 2, true));
        due(BAD, x.code(0, 'a', 31, true));
        duePlaces(x, 0, 1);
        due(NO, x.exception(1, 0));
    }

    private static void codeOfSigns() {
        says("Promise 3", "A sign is a letter (the signs 0 and 255)");
        Rows x = open(0);
        pattern(x, 0, "1a1");
        due(BAD, x.code(0, -1, 1, false));
        due(BAD, x.code(0, 256, 1, false));
        x.sign(0);
        x.sign(255);
        due(NO, x.exception(0, 0));
        due(1, x.code(0, 0, 1, false));
        due(NO, x.exception(0, 0));
        due(1, x.code(0, 255, 1, false));
        duePlaces(x, 0, 1);
    }

    private static void codeOfCapitals() {
        says("Promise 3", "a capital one or not");
        Rows x = open(1);
        addLanguage(x, 1);
        pattern(x, 0, "1a1");
        pattern(x, 1, "1a1");
        x.ends(0, 1, 1, true);
        x.ends(1, 1, 1, true);
        word(x, "aa");
        duePlaces(x, 0, 1);
        due(1, x.code(0, 'a', 1, true));
        duePlaces(x, 0);
        duePlaces(x, 1, 1);
        due(1, x.code(0, 'a', 1, false));
        duePlaces(x, 0, 1);
        due(1, x.code(0, 'a', 0, true));
        duePlaces(x, 0);
    }

    private static void ends() {
        says("Promise 4", "LEAST ends, and whether CAPITALS are left whole: 1. BAD.");
        Rows x = fresh(1);
        addLanguage(x, 1);
        x.code(0, 'A', 1, true);
        pattern(x, 0, "1a1");
        pattern(x, 1, "1a1");
        word(x, "Aaaaa");
        due(1, x.ends(0, 1, 2, false));
        duePlaces(x, 0, 1, 2, 3);
        for (int outside : OUTSIDE) {
            due(BAD, x.ends(outside, 3, 1, true));
            due(BAD, x.ends(0, outside, 1, true));
            due(BAD, x.ends(0, 3, outside, true));
        }
        due(BAD, x.ends(2, 3, 1, true));
        due(BAD, x.ends(0, 21, 1, true));
        due(BAD, x.ends(0, 3, 21, true));
        due(BAD, x.ends(0, 21, 21, true));
        // A refused call changes neither end, nor whether capitals are left whole.
        duePlaces(x, 0, 1, 2, 3);
        due(1, x.ends(0, 1, 2, true));
        duePlaces(x, 0);
        due(BAD, x.ends(0, 1, 21, false));
        duePlaces(x, 0);
        word(x, "aaaaa");
        duePlaces(x, 1, 2);
        due(1, x.ends(0, 2, 1, true));
        duePlaces(x, 0, 2, 3, 4);
        duePlaces(x, 1, 2);
    }

    private static void next() {
        says("Promise 5", "a letter or edge more, with the digit before it: how many it has");
        Rows x = open(3);
        due(1, x.next(0, 9));
        due(2, x.next(1, 3));
        due(3, x.next(2, 4));
        due(0, x.patterns());
        due(0, x.pattern(0, 5));
        due(1, x.next(3, 6));
        due(1, x.pattern(0, 7));
        word(x, "abc");
        dueDigits(x, 0, "3467");
        nextRefused();
        nextFull();
    }

    private static void nextRefused() {
        says("Promise 5", "BAD for another letter or digit");
        Rows x = open(2);
        due(1, x.next(1, 3));
        due(BAD, x.next(-1, 9));
        due(BAD, x.next(31, 9));
        due(BAD, x.next(2, -1));
        due(BAD, x.next(2, 10));
        due(BAD, x.next(31, 10));
        due(2, x.next(2, 4));
        due(0, x.pattern(0, 5));
        word(x, "ab");
        dueDigits(x, 0, "345");
    }

    private static void nextFull() {
        says("Promise 5", "FULL when it has 12.");
        Rows x = open(2);
        for (int i = 1; i <= 11; i++) {
            due(i, x.next(1, 2));
        }
        due(12, x.next(2, 3));
        due(FULL, x.next(1, 9));
        due(FULL, x.next(0, 9));
        due(BAD, x.next(31, 9));
        due(BAD, x.next(1, 10));
        due(FULL, x.next(2, 8));
        due(0, x.pattern(0, 4));
        word(x, "aaaaaaaaaaab");
        dueDigits(x, 0, "2222222222234");
        due(1, x.next(1, 0));
    }

    private static void pattern() {
        patternNumbers();
        patternRefused();
        patternWithoutALetter();
        patternWithAnEdgeInTheMiddle();
        patternFull();
    }

    private static void patternNumbers() {
        says("Promise 6", "its number (that of the one with the same row)");
        Rows x = open(3);
        due(0, pattern(x, 0, "a"));
        due(1, pattern(x, 0, "b"));
        due(2, pattern(x, 0, "c"));
        due(1, pattern(x, 0, "5b"));
        due(0, pattern(x, 0, "3a"));
        due(2, pattern(x, 0, "7c1"));
        due(3, pattern(x, 0, "ca"));
        due(4, x.patterns());
        word(x, "abc");
        dueDigits(x, 0, "3571");
    }

    private static void patternRefused() {
        says("Promise 6", "BAD for another language or digit (it stays in the making)");
        Rows x = open(2);
        due(BAD, x.pattern(1, 0));
        due(BAD, x.pattern(0, 10));
        due(1, x.next(1, 3));
        due(2, x.next(2, 4));
        for (int outside : OUTSIDE) {
            due(BAD, x.pattern(outside, 9));
            due(BAD, x.pattern(0, outside));
        }
        due(BAD, x.pattern(1, 9));
        due(BAD, x.pattern(0, 10));
        due(0, x.patterns());
        due(3, x.next(1, 5));
        due(0, x.pattern(0, 6));
        word(x, "aba");
        dueDigits(x, 0, "3456");
        // One that would be NO is BAD all the same, and stays as well.
        due(1, x.next(0, 0));
        due(BAD, x.pattern(1, 0));
        due(2, x.next(1, 9));
        due(1, x.pattern(0, 0));
    }

    private static void patternWithoutALetter() {
        says("Promise 6", "NO when it has no letter (edges alone, or none)");
        Rows x = open(1);
        due(NO, x.pattern(0, 9));
        for (int edges = 1; edges <= 12; edges++) {
            for (int i = 1; i <= edges; i++) {
                due(i, x.next(0, 9));
            }
            due(NO, x.pattern(0, 9));
        }
        due(0, x.patterns());
        due(1, x.next(1, 0));
        due(0, x.pattern(0, 0));
        due(1, x.patterns());
        word(x, "");
        dueDigits(x, 0, "0");
        word(x, "a");
        dueDigits(x, 0, "00");
    }

    private static void patternWithAnEdgeInTheMiddle() {
        says("Promise 6", "NO when it has an edge in the middle");
        for (int letters = 3; letters <= 12; letters++) {
            for (int edge = 0; edge < letters; edge++) {
                Rows x = open(1);
                for (int i = 0; i < letters; i++) {
                    due(i + 1, x.next(i == edge ? 0 : 1, 9));
                }
                boolean atAnEnd = edge == 0 || edge == letters - 1;
                due(atAnEnd ? 0 : NO, x.pattern(0, 9));
                due(atAnEnd ? 1 : 0, x.patterns());
                due(1, x.next(1, 0));
                due(atAnEnd ? 1 : 0, x.pattern(0, 0));
            }
        }
    }

    private static void patternFull() {
        says("Promise 6", "FULL. It is empty then, but for BAD.");
        Rows x = new Rows();
        for (int language = 0; language < 4; language++) {
            x.language();
        }
        x.code(0, 'a', 1, false);
        for (int i = 0; i < 120; i++) {
            x.next(1 + i % 30, 0);
            due(i, x.pattern(i / 30, 0));
        }
        for (int i = 0; i < 30; i++) {
            x.next(0, 0);
            x.next(1 + i, 0);
            due(120 + i, x.pattern(3, 0));
        }
        word(x, "a");
        x.next(0, 9);
        x.next(1, 9);
        due(BAD, x.pattern(4, 9));
        due(BAD, x.pattern(0, 10));
        due(FULL, x.pattern(0, 9));
        due(NO, x.pattern(0, 9));
        due(1, x.next(0, 9));
        due(NO, x.pattern(0, 9));
        dueDigits(x, 0, "00");
        // One that is there already needs no room: its digits count.
        due(1, x.next(1, 5));
        due(0, x.pattern(0, 6));
        due(NO, x.pattern(0, 6));
        dueDigits(x, 0, "56");
        due(150, x.patterns());
    }

    private static void sign() {
        says("Promise 7", "The word has a sign (0 .. 255) more: how many. BAD");
        Rows x = open(2);
        pattern(x, 0, "1a2b3");
        x.code(0, 0, 1, false);
        x.code(0, 255, 2, false);
        due(BAD, x.sign(-1));
        due(BAD, x.sign(256));
        due(1, x.sign(0));
        due(BAD, x.sign(-1));
        due(BAD, x.sign(256));
        for (int outside : OUTSIDE) {
            due(BAD, x.sign(outside));
        }
        due(2, x.sign(255));
        dueDigits(x, 0, "123");
        duePlaces(x, 0);
        signFull();
    }

    private static void signFull() {
        says("Promise 7", "FULL when it has 30.");
        Rows x = open(2);
        pattern(x, 0, "a1b3.");
        x.sign('b');
        for (int i = 2; i <= 29; i++) {
            due(i, x.sign('a'));
        }
        due(30, x.sign('b'));
        due(FULL, x.sign('a'));
        due(FULL, x.sign('-'));
        due(BAD, x.sign(-1));
        due(BAD, x.sign(256));
        due(FULL, x.sign(255));
        duePlaces(x, 0, 29);
        due(3, x.digit(0, 30));
        due(BAD, x.digit(0, 31));
        due(30, x.clear());
        due(1, x.sign('a'));
    }

    private static void clear() {
        says("Promise 8", "The word has no signs; how many it had.");
        Rows x = open(2);
        due(0, x.clear());
        x.sign('a');
        due(1, x.clear());
        due(0, x.clear());
        more(x, THIRTY);
        due(FULL, x.sign('a'));
        due(30, x.clear());
        due(0, x.clear());
        dueDigits(x, 0, "0");
        due(NO, x.exception(0, 1));
        duePlaces(x, 0);
        due(1, x.sign('a'));
        // Nothing but the word goes.
        word(x, "ab");
        pattern(x, 0, "1a1");
        x.exception(0, 2);
        x.run(0);
        x.next(1, 0);
        due(2, x.clear());
        due(1, x.at(0));
        due(1, x.patterns());
        due(1, x.exceptions());
        due(2, x.next(1, 0));
        more(x, "ab");
        dueDigits(x, 0, "010");
    }

    private static void exception() {
        exceptionBits();
        exceptionNumbers();
        exceptionRefused();
        exceptionNone();
        exceptionFull();
    }

    private static void exceptionBits() {
        says("Promise 9", "with places as bits (bit k for after k signs)");
        for (int length : new int[] {1, 2, 29, 30}) {
            for (int bit = 0; bit <= 31; bit++) {
                Rows x = open(1);
                word(x, THIRTY.substring(0, length));
                due(0, x.exception(0, 1 << bit));
                for (int k = 0; k <= length; k++) {
                    due(k == bit ? 1 : 0, x.digit(0, k));
                }
                boolean between = bit >= 1 && bit < length;
                due(between ? 1 : 0, x.run(0));
                due(between ? bit : NO_PLACE, x.at(0));
                due(0, x.exception(0, ~(1 << bit)));
                for (int k = 0; k <= length; k++) {
                    due(k == bit ? 0 : 1, x.digit(0, k));
                }
            }
        }
    }

    private static void exceptionNumbers() {
        says("Promise 9", "its number (that of the one with the same letters; its places count from now on)");
        Rows x = open(2);
        addLanguage(x, 2);
        x.ends(1, 1, 1, false);
        x.code(0, 'A', 1, true);
        word(x, "ab");
        due(0, x.exception(0, 0));
        due(1, x.exception(1, 0));
        word(x, "abb");
        due(2, x.exception(0, 0));
        duePlaces(x, 0);
        word(x, "Ab");
        due(0, x.exception(0, 2));
        due(3, x.exceptions());
        duePlaces(x, 0, 1);
        word(x, "ab");
        duePlaces(x, 0, 1);
        duePlaces(x, 1);
        due(0, x.exception(0, 0));
        duePlaces(x, 0);
        due(3, x.exceptions());
    }

    private static void exceptionRefused() {
        says("Promise 9", "BAD");
        Rows x = open(2);
        word(x, "ab");
        due(0, x.exception(0, 2));
        for (int outside : OUTSIDE) {
            due(BAD, x.exception(outside, 0));
        }
        due(BAD, x.exception(1, 0));
        due(1, x.exceptions());
        duePlaces(x, 0, 1);
        // A word that would be NO is BAD all the same.
        word(x, "-");
        due(BAD, x.exception(1, 0));
        word(x, "");
        due(BAD, x.exception(1, 0));
        due(1, x.exceptions());
    }

    private static void exceptionNone() {
        says("Promise 9", "NO when it has no signs, or one without a code");
        Rows x = open(2);
        due(NO, x.exception(0, 1));
        for (String text : new String[] {"-", "-ab", "a-b", "ab-"}) {
            word(x, text);
            due(NO, x.exception(0, -1));
            due(0, x.exceptions());
        }
        x.code(0, '-', 1, false);
        dueDigits(x, 0, "0000");
        due(0, x.exception(0, -1));
        dueDigits(x, 0, "1111");
        x.code(0, '-', 0, false);
        due(NO, x.exception(0, -1));
        due(1, x.exceptions());
        word(x, "");
        dueDigits(x, 0, "0");
    }

    private static void exceptionFull() {
        says("Promise 9", "FULL when there are 40 in all");
        Rows x = fresh(2);
        addLanguage(x, 2);
        // Words of one sign, two signs .. in two languages, each there once.
        for (int i = 0; i < 20; i++) {
            x.sign('a');
            due(2 * i, x.exceptions());
            due(2 * i, x.exception(0, 0));
            due(2 * i + 1, x.exception(1, 0));
        }
        x.sign('a');
        due(FULL, x.exception(0, -1));
        due(FULL, x.exception(1, -1));
        due(40, x.exceptions());
        due(0, x.digit(0, 1));
        due(BAD, x.exception(2, -1));
        x.sign('-');
        due(NO, x.exception(0, -1));
        x.clear();
        due(NO, x.exception(0, -1));
        // One that is there already needs no room.
        x.sign('a');
        due(0, x.exception(0, 1));
        due(1, x.exception(1, 2));
        dueDigits(x, 0, "10");
        dueDigits(x, 1, "01");
        due(40, x.exceptions());
        due(1, x.drop(39));
        word(x, "b");
        due(39, x.exception(1, 0));
        due(FULL, x.exception(0, 0));
        due(40, x.exceptions());
    }

    private static void drop() {
        says("Promise 10", "An exception is none any more: 1; numbers behind it are one less. BAD.");
        for (int dropped = 0; dropped < 3; dropped++) {
            Rows x = threeExceptions();
            for (int outside : OUTSIDE) {
                due(BAD, x.drop(outside));
            }
            due(BAD, x.drop(3));
            due(3, x.exceptions());
            due(1, x.drop(dropped));
            due(2, x.exceptions());
            due(BAD, x.drop(2));
            for (int i = 0; i < 3; i++) {
                word(x, THIRTY.substring(0, i + 2));
                // Its own digits are odd at 1, those of the pattern nowhere.
                due(i == dropped ? 2 : 1, x.digit(0, 1));
                if (i != dropped) {
                    due(i < dropped ? i : i - 1, x.exception(0, 2));
                }
            }
            word(x, THIRTY.substring(0, dropped + 2));
            due(2, x.exception(0, 0));
        }
        dropAll();
    }

    private static Rows threeExceptions() {
        Rows x = open(1);
        pattern(x, 0, "2a2");
        for (int i = 0; i < 3; i++) {
            word(x, THIRTY.substring(0, i + 2));
            due(i, x.exception(0, 2));
        }
        return x;
    }

    private static void dropAll() {
        says("Promise 10", "BAD (none is there)");
        Rows x = threeExceptions();
        for (int left = 2; left >= 0; left--) {
            due(1, x.drop(0));
            due(left, x.exceptions());
        }
        due(BAD, x.drop(0));
        due(BAD, x.drop(-1));
        due(0, x.exceptions());
        due(0, x.exception(0, 2));
        due(1, x.drop(0));
        due(BAD, x.drop(0));
    }

    private static void run() {
        says("Promise 11", "How many PLACES the word has in a language. BAD.");
        Rows x = open(1);
        addLanguage(x, 1);
        pattern(x, 0, "1a1");
        duePlaces(x, 0);
        for (int length = 1; length <= 30; length++) {
            x.sign('a');
            due(length - 1, x.run(0));
            due(length > 1 ? 1 : NO_PLACE, x.at(0));
            due(length > 1 ? length - 1 : NO_PLACE, x.at(length - 2));
            due(NO_PLACE, x.at(length - 1));
        }
        for (int outside : OUTSIDE) {
            due(BAD, x.run(outside));
        }
        due(BAD, x.run(2));
        due(0, x.run(1));
        due(29, x.run(0));
        // It changes neither the word nor what is told of it.
        due(30, x.clear());
        due(0, x.run(0));
        due(1, x.patterns());
        due(0, x.exceptions());
    }

    private static void at() {
        says("Promise 12", "Place i (from 0) of the latest run(); -1 when there is none.");
        Rows x = open(1);
        addLanguage(x, 1);
        pattern(x, 0, "1a1");
        due(NO_PLACE, x.at(0));
        word(x, "aaa");
        due(NO_PLACE, x.at(0));
        due(2, x.run(0));
        due(NO_PLACE, x.at(-1));
        due(1, x.at(0));
        due(2, x.at(1));
        due(NO_PLACE, x.at(2));
        for (int outside : OUTSIDE) {
            due(NO_PLACE, x.at(outside));
        }
        due(1, x.at(0));
        atOfTheLatest(x);
        atOfTheLongest();
    }

    /** Two places are there from the run before. */
    private static void atOfTheLatest(Rows x) {
        says("Promise 12", "of the latest run()");
        word(x, "aaaaa");
        x.ends(0, 3, 1, false);
        x.digit(0, 1);
        x.exception(0, 0);
        due(BAD, x.run(2));
        due(1, x.at(0));
        due(2, x.at(1));
        due(NO_PLACE, x.at(2));
        x.drop(0);
        due(2, x.run(0));
        due(3, x.at(0));
        due(4, x.at(1));
        // Fewer places than before leave none of the earlier ones, whatever the cause.
        word(x, "aaaa");
        due(1, x.run(0));
        due(3, x.at(0));
        due(NO_PLACE, x.at(1));
        due(0, x.run(1));
        due(NO_PLACE, x.at(0));
        x.run(0);
        more(x, "-");
        due(0, x.run(0));
        due(NO_PLACE, x.at(0));
        word(x, "aaaa");
        x.run(0);
        x.code(0, 'a', 1, true);
        x.ends(0, 1, 1, true);
        due(0, x.run(0));
        due(NO_PLACE, x.at(0));
        x.ends(0, 1, 1, false);
        due(3, x.run(0));
        x.clear();
        due(0, x.run(0));
        due(NO_PLACE, x.at(0));
    }

    private static void atOfTheLongest() {
        says("Promise 12", "Place i (from 0) (of the longest word)");
        Rows x = open(1);
        pattern(x, 0, "1a1");
        word(x, THIRTY);
        due(29, x.run(0));
        for (int i = 0; i < 29; i++) {
            due(i + 1, x.at(i));
        }
        due(NO_PLACE, x.at(29));
        due(NO_PLACE, x.at(30));
    }

    private static void digit() {
        says("Promise 13", "k = 0: before the first one; its length: behind the last one. BAD for no such place.");
        Rows x = open(1);
        addLanguage(x, 1);
        pattern(x, 0, "2a3");
        pattern(x, 0, ".4a");
        pattern(x, 0, "a5.");
        due(0, x.digit(0, 0));
        due(BAD, x.digit(0, 1));
        for (int length = 1; length <= 30; length++) {
            x.sign('a');
            due(BAD, x.digit(0, -1));
            due(4, x.digit(0, 0));
            due(length == 1 ? 5 : 3, x.digit(0, 1));
            due(5, x.digit(0, length));
            due(BAD, x.digit(0, length + 1));
        }
        for (int outside : OUTSIDE) {
            due(BAD, x.digit(0, outside));
            due(BAD, x.digit(outside, 0));
        }
        due(BAD, x.digit(2, 0));
        due(0, x.digit(1, 30));
        due(BAD, x.digit(1, 31));
        digitWithoutACode();
        digitWithoutARun();
    }

    private static void digitWithoutACode() {
        says("Promise 13", "0 when it has a sign without a code");
        Rows x = open(1);
        pattern(x, 0, "9a9");
        for (String text : new String[] {"-aa", "a-a", "aa-"}) {
            word(x, text);
            dueDigits(x, 0, "0000");
            due(BAD, x.digit(1, 0));
        }
        x.code(0, '-', 1, false);
        dueDigits(x, 0, "9999");
        // The same word was an exception while the sign had a code.
        x.exception(0, -1);
        dueDigits(x, 0, "1111");
        x.code(0, '-', 0, false);
        dueDigits(x, 0, "0000");
    }

    private static void digitWithoutARun() {
        says("Promise 13", "The DIGIT between the word's signs k - 1 and k (whatever the ends and capitals)");
        Rows x = fresh(1);
        x.code(0, 'A', 1, true);
        pattern(x, 0, "1a1");
        word(x, "Aa");
        x.ends(0, 20, 20, true);
        dueDigits(x, 0, "111");
        due(NO_PLACE, x.at(0));
        duePlaces(x, 0);
    }

    private static void patterns() {
        says("Promise 14", "How many patterns there are.");
        Rows x = open(2);
        addLanguage(x, 2);
        due(0, x.patterns());
        make(x, "a1b");
        due(0, x.patterns());
        x.pattern(2, 0);
        x.pattern(0, 10);
        due(0, x.patterns());
        x.pattern(0, 0);
        due(1, x.patterns());
        x.pattern(0, 0);
        pattern(x, 0, "..");
        pattern(x, 0, "a.b");
        due(1, x.patterns());
        pattern(x, 0, "a2b");
        due(1, x.patterns());
        pattern(x, 1, "a2b");
        due(2, x.patterns());
        word(x, "ab");
        x.exception(0, 0);
        x.drop(0);
        x.clear();
        due(2, x.patterns());
    }

    private static void exceptions() {
        says("Promise 15", "How many exceptions there are.");
        Rows x = open(2);
        addLanguage(x, 2);
        due(0, x.exceptions());
        x.exception(0, 0);
        word(x, "a-");
        x.exception(0, 0);
        word(x, "ab");
        x.exception(2, 0);
        due(0, x.exceptions());
        x.exception(0, 0);
        due(1, x.exceptions());
        x.exception(0, 2);
        due(1, x.exceptions());
        x.exception(1, 2);
        due(2, x.exceptions());
        x.drop(2);
        due(2, x.exceptions());
        x.drop(1);
        due(1, x.exceptions());
        pattern(x, 0, "a1b");
        x.clear();
        due(1, x.exceptions());
        x.drop(0);
        due(0, x.exceptions());
    }
}
