/** Each promise of the document by hand: ordinary calls, the edges it names, and wrong arguments. */
public final class HyphenRowsPromises {
    private static final int BAD = -1;
    private static final int FULL = -2;
    private static final int NO = -3;
    private static final int[] FAR = {Integer.MIN_VALUE, -1000, -1, 1000, Integer.MAX_VALUE};

    private static int wrong = 0;
    private static String promise = "";

    public static void main(String[] args) {
        promise = "1 new object";
        newObject();
        promise = "2 language";
        languages();
        promise = "3 code";
        codes();
        promise = "4 ends";
        ends();
        capitals();
        promise = "5 next";
        next();
        promise = "6 pattern";
        patternNumbers();
        patternRefusals();
        patternMostInAll();
        patternDigits();
        promise = "7 sign";
        signs();
        promise = "8 clear";
        clear();
        promise = "9 exception";
        exceptionNumbers();
        exceptionPlaces();
        exceptionMostInAll();
        exceptionKeepsLetters();
        promise = "10 drop";
        drop();
        promise = "11 run";
        run();
        promise = "12 at";
        at();
        promise = "13 digit";
        digit();
        promise = "14 patterns";
        patternCount();
        promise = "15 exceptions";
        exceptionCount();
        System.out.println(wrong == 0 ? "all promises hold" : wrong + " answers are not as due");
        if (wrong != 0) {
            System.exit(1);
        }
    }

    private static void due(String what, int got, int want) {
        if (got != want) {
            wrong++;
            System.out.println("promise " + promise + ": " + what + " answered " + got + ", due is " + want);
        }
    }

    // ---- helpers -------------------------------------------------------------------------------

    /** One language with the signs a .. z as letters 1 .. 26, A .. Z as capitals, ends 1 and 1. */
    private static HyphenRows latin() {
        HyphenRows x = new HyphenRows();
        addLatin(x);
        return x;
    }

    private static int addLatin(HyphenRows x) {
        int language = x.language();
        for (int i = 0; i < 26; i++) {
            x.code(language, 'a' + i, i + 1, false);
            x.code(language, 'A' + i, i + 1, true);
        }
        x.ends(language, 1, 1, false);
        return language;
    }

    private static void word(HyphenRows x, String text) {
        x.clear();
        for (int i = 0; i < text.length(); i++) {
            x.sign(text.charAt(i));
        }
    }

    /** A pattern as hyphenation files write it: letters, '.' for an edge, digits where not 0. */
    private static int pattern(HyphenRows x, int language, String text) {
        int digit = 0;
        for (int i = 0; i < text.length(); i++) {
            char c = text.charAt(i);
            if (c >= '0' && c <= '9') {
                digit = c - '0';
            } else {
                x.next(c == '.' ? 0 : c - 'a' + 1, digit);
                digit = 0;
            }
        }
        return x.pattern(language, digit);
    }

    private static void dueDigits(HyphenRows x, int language, String want) {
        for (int k = 0; k < want.length(); k++) {
            due("digit(" + language + ", " + k + ")", x.digit(language, k), want.charAt(k) - '0');
        }
        due("digit(" + language + ", " + want.length() + ")", x.digit(language, want.length()), BAD);
    }

    private static void duePlaces(HyphenRows x, int language, int... want) {
        due("run(" + language + ")", x.run(language), want.length);
        for (int i = 0; i < want.length; i++) {
            due("at(" + i + ")", x.at(i), want[i]);
        }
        due("at(" + want.length + ")", x.at(want.length), -1);
    }

    // ---- promises ------------------------------------------------------------------------------

    private static void newObject() {
        HyphenRows x = new HyphenRows();
        due("run(0)", x.run(0), BAD);
        due("at(0)", x.at(0), -1);
        due("patterns()", x.patterns(), 0);
        due("exceptions()", x.exceptions(), 0);
        due("clear()", x.clear(), 0);
        due("pattern(0, 0)", x.pattern(0, 0), BAD);
        due("language()", x.language(), 0);
        due("pattern(0, 0)", x.pattern(0, 0), NO);

        HyphenRows one = latin();
        word(one, "ab");
        pattern(one, 0, "a1b");
        one.exception(0, 0);
        HyphenRows other = new HyphenRows();
        due("another object's clear()", other.clear(), 0);
        due("another object's patterns()", other.patterns(), 0);
        due("another object's exceptions()", other.exceptions(), 0);
        due("another object's language()", other.language(), 0);
    }

    private static void languages() {
        HyphenRows x = new HyphenRows();
        for (int i = 0; i < 4; i++) {
            due("run(" + i + ") before it is there", x.run(i), BAD);
            due("language()", x.language(), i);
            due("run(" + i + ")", x.run(i), 0);
        }
        due("language()", x.language(), FULL);
        due("language()", x.language(), FULL);
        due("run(4)", x.run(4), BAD);
        due("run(3)", x.run(3), 0);
    }

    private static void codes() {
        HyphenRows x = new HyphenRows();
        due("code without a language", x.code(0, 0, 1, false), BAD);
        x.language();
        x.language();
        for (int sign : new int[] {0, 255}) {
            for (int letter : new int[] {1, 30}) {
                due("code(0, " + sign + ", " + letter + ")", x.code(0, sign, letter, false), 1);
                x.clear();
                x.sign(sign);
                due("exception of a coded sign", x.exception(0, 0) >= 0 ? 1 : 0, 1);
                due("exception of a sign coded in another language alone", x.exception(1, 0), NO);
            }
            due("code(0, " + sign + ", 0)", x.code(0, sign, 0, false), 1);
            due("exception of a sign without a code", x.exception(0, 0), NO);
        }
        for (int far : FAR) {
            due("code(" + far + ", 0, 1)", x.code(far, 0, 1, false), BAD);
            due("code(0, " + far + ", 1)", x.code(0, far, 1, false), BAD);
            due("code(0, 0, " + far + ")", x.code(0, 0, far, false), BAD);
        }
        due("code(2, 0, 1)", x.code(2, 0, 1, false), BAD);
        due("code(0, 256, 1)", x.code(0, 256, 1, false), BAD);
        due("code(0, 0, 31)", x.code(0, 0, 31, false), BAD);
        x.clear();
        x.sign(0);
        due("a refused code changes nothing", x.exception(0, 0), NO);
        codeIsTheLatest();
    }

    private static void codeIsTheLatest() {
        HyphenRows x = latin();
        pattern(x, 0, "a1b");
        word(x, "qb");
        duePlaces(x, 0);
        x.code(0, 'q', 1, false);
        duePlaces(x, 0, 1);
        x.code(0, 'q', 31, false);
        duePlaces(x, 0, 1);
        x.code(0, 'q', 0, false);
        duePlaces(x, 0);
    }

    private static void ends() {
        HyphenRows x = new HyphenRows();
        due("ends without a language", x.ends(0, 1, 1, false), BAD);
        x.language();
        x.code(0, 'a', 1, false);
        pattern(x, 0, "1a");
        word(x, "aaaaaaa");
        duePlaces(x, 0, 2, 3, 4);
        due("ends(0, 0, 0)", x.ends(0, 0, 0, false), 1);
        duePlaces(x, 0, 1, 2, 3, 4, 5, 6);
        due("ends(0, 1, 1)", x.ends(0, 1, 1, false), 1);
        duePlaces(x, 0, 1, 2, 3, 4, 5, 6);
        due("ends(0, 4, 0)", x.ends(0, 4, 0, false), 1);
        duePlaces(x, 0, 4, 5, 6);
        due("ends(0, 0, 4)", x.ends(0, 0, 4, false), 1);
        duePlaces(x, 0, 1, 2, 3);
        due("ends(0, 3, 4)", x.ends(0, 3, 4, false), 1);
        duePlaces(x, 0, 3);
        for (int far : FAR) {
            due("ends(" + far + ", 1, 1)", x.ends(far, 1, 1, true), BAD);
            due("ends(0, " + far + ", 1)", x.ends(0, far, 1, true), BAD);
            due("ends(0, 1, " + far + ")", x.ends(0, 1, far, true), BAD);
        }
        due("ends(1, 1, 1)", x.ends(1, 1, 1, false), BAD);
        due("ends(0, 21, 1)", x.ends(0, 21, 1, false), BAD);
        due("ends(0, 1, 21)", x.ends(0, 1, 21, false), BAD);
        duePlaces(x, 0, 3);
        due("ends(0, 4, 4)", x.ends(0, 4, 4, false), 1);
        duePlaces(x, 0);
        word(x, "aaaaaaaaaaaaaaaaaaaaaaaaaaaaaa");
        due("ends(0, 20, 1)", x.ends(0, 20, 1, false), 1);
        due("run(0)", x.run(0), 10);
        due("at(0)", x.at(0), 20);
        due("ends(0, 1, 20)", x.ends(0, 1, 20, false), 1);
        due("run(0)", x.run(0), 10);
        due("at(9)", x.at(9), 10);
        x.language();
        x.code(1, 'a', 1, false);
        pattern(x, 1, "1a");
        due("another language keeps its own ends", x.run(1), 26);
    }

    private static void capitals() {
        HyphenRows x = latin();
        pattern(x, 0, "a1b");
        word(x, "Ab");
        duePlaces(x, 0, 1);
        due("ends(.., true)", x.ends(0, 1, 1, true), 1);
        duePlaces(x, 0);
        due("a capital's digit is as any other's", x.digit(0, 1), 1);
        word(x, "aB");
        duePlaces(x, 0, 1);
        word(x, "Ab");
        x.exception(0, 2);
        duePlaces(x, 0);
        x.code(0, 'A', 1, false);
        duePlaces(x, 0, 1);
        x.code(0, 'A', 1, true);
        duePlaces(x, 0);
        addLatin(x);
        pattern(x, 1, "a1b");
        duePlaces(x, 1, 1);
    }

    private static void next() {
        HyphenRows x = latin();
        for (int far : FAR) {
            due("next(" + far + ", 0)", x.next(far, 0), BAD);
            due("next(1, " + far + ")", x.next(1, far), BAD);
        }
        due("next(31, 0)", x.next(31, 0), BAD);
        due("next(1, 10)", x.next(1, 10), BAD);
        due("next(0, 0)", x.next(0, 0), 1);
        due("next(30, 9)", x.next(30, 9), 2);
        for (int i = 3; i <= 12; i++) {
            due("next(1, 0)", x.next(1, 0), i);
        }
        due("next(1, 0)", x.next(1, 0), FULL);
        due("next(31, 0) when it is full", x.next(31, 0), BAD);
        due("next(1, 10) when it is full", x.next(1, 10), BAD);
        due("a full one comes to a language", x.pattern(0, 0), 0);
        due("next(1, 0) after it", x.next(1, 0), 1);
        longestPatternCounts();
    }

    private static void longestPatternCounts() {
        HyphenRows x = latin();
        pattern(x, 0, "1a2b3c4d5e6f7g8h9i8j7k6l5");
        word(x, "abcdefghijkl");
        dueDigits(x, 0, "1234567898765");
        word(x, "xabcdefghijklx");
        dueDigits(x, 0, "012345678987650");
        word(x, "abcdefghijkx");
        dueDigits(x, 0, "0000000000000");
    }

    private static void patternNumbers() {
        HyphenRows x = latin();
        addLatin(x);
        due("first", pattern(x, 0, "a1b"), 0);
        due("second", pattern(x, 0, "b1a"), 1);
        due("same row, another language", pattern(x, 1, "a1b"), 2);
        due("longer", pattern(x, 0, "abc"), 3);
        due("with an edge before", pattern(x, 0, ".ab"), 4);
        due("with an edge behind", pattern(x, 0, "ab."), 5);
        due("with both edges", pattern(x, 0, ".ab."), 6);
        due("shorter", pattern(x, 0, "a"), 7);
        due("same as the first", pattern(x, 0, "3a2b4"), 0);
        due("same as the third", pattern(x, 1, "ab"), 2);
        due("same as the fourth", pattern(x, 0, "abc"), 3);
        due("same as with an edge before", pattern(x, 0, ".1ab"), 4);
        due("patterns()", x.patterns(), 8);
    }

    private static void patternRefusals() {
        HyphenRows x = latin();
        x.next(1, 0);
        for (int far : FAR) {
            due("pattern(" + far + ", 0)", x.pattern(far, 0), BAD);
            due("pattern(0, " + far + ")", x.pattern(0, far), BAD);
        }
        due("pattern(1, 0)", x.pattern(1, 0), BAD);
        due("pattern(0, 10)", x.pattern(0, 10), BAD);
        due("it stayed in the making", x.next(2, 1), 2);
        due("pattern(0, 9)", x.pattern(0, 9), 0);
        word(x, "ab");
        dueDigits(x, 0, "019");
        due("none", x.pattern(0, 0), NO);
        due("none, another language", x.pattern(1, 0), BAD);
        due("one edge", pattern(x, 0, "."), NO);
        due("two edges", pattern(x, 0, ".."), NO);
        due("three edges", pattern(x, 0, "..."), NO);
        due("edge in the middle", pattern(x, 0, "a.b"), NO);
        due("edge second", pattern(x, 0, "..a"), NO);
        due("edge last but one", pattern(x, 0, "a.."), NO);
        due("edges at three places", pattern(x, 0, ".a.b."), NO);
        due("empty after NO", x.next(1, 0), 1);
        due("an edge after the only letter", x.next(0, 0), 2);
        due("pattern", x.pattern(0, 0), 1);
        due("patterns()", x.patterns(), 2);
    }

    /** 150 within 512 calls: each letter alone in each language, then rows with an edge. */
    private static void patternMostInAll() {
        HyphenRows x = new HyphenRows();
        for (int language = 0; language < 4; language++) {
            x.language();
            for (int letter = 1; letter <= 30; letter++) {
                x.next(letter, 0);
                due("pattern", x.pattern(language, 0), 30 * language + letter - 1);
            }
        }
        for (int letter = 1; letter <= 30; letter++) {
            x.next(0, 0);
            x.next(letter, 0);
            due("pattern", x.pattern(3, 0), 120 + letter - 1);
        }
        due("patterns()", x.patterns(), 150);
        x.next(1, 0);
        x.next(0, 0);
        due("one more", x.pattern(3, 0), FULL);
        due("empty after FULL", x.next(0, 0), 1);
        due("NO before FULL", x.pattern(3, 0), NO);
        x.next(0, 0);
        x.next(30, 0);
        due("BAD before FULL", x.pattern(4, 0), BAD);
        due("the one with the same row", x.pattern(3, 7), 149);
        x.next(1, 0);
        due("the first row", x.pattern(0, 5), 0);
        due("patterns()", x.patterns(), 150);
        x.code(3, 1, 30, false);
        x.code(0, 1, 1, false);
        x.sign(1);
        due("digit of the last", x.digit(3, 1), 7);
        due("digit of the first", x.digit(0, 1), 5);
    }

    private static void patternDigits() {
        HyphenRows x = latin();
        word(x, "abab");
        pattern(x, 0, "1a2b3");
        dueDigits(x, 0, "12323");
        pattern(x, 0, "4b");
        dueDigits(x, 0, "14343");
        pattern(x, 0, "2b");
        dueDigits(x, 0, "12323");
        pattern(x, 0, ".9a");
        dueDigits(x, 0, "92323");
        pattern(x, 0, "b8.");
        dueDigits(x, 0, "92328");
        pattern(x, 0, "5.abab.5");
        dueDigits(x, 0, "92328");
        pattern(x, 0, "5.5a5b5a5b5.5");
        dueDigits(x, 0, "95558");
        pattern(x, 0, "0.0a0b0a0b0.0");
        dueDigits(x, 0, "92328");
        pattern(x, 0, ".7b7");
        pattern(x, 0, "7a7.");
        pattern(x, 0, "7.abc");
        dueDigits(x, 0, "92328");
        overlapsInOneWord();
    }

    private static void overlapsInOneWord() {
        HyphenRows x = latin();
        pattern(x, 0, "1a3a2");
        word(x, "aaaa");
        dueDigits(x, 0, "13332");
        duePlaces(x, 0, 1, 2, 3);
        word(x, "a");
        dueDigits(x, 0, "00");
    }

    private static void signs() {
        HyphenRows x = latin();
        for (int far : FAR) {
            due("sign(" + far + ")", x.sign(far), BAD);
        }
        due("sign(256)", x.sign(256), BAD);
        due("sign(0)", x.sign(0), 1);
        due("sign(255)", x.sign(255), 2);
        for (int i = 3; i <= 30; i++) {
            due("sign(97)", x.sign(97), i);
        }
        due("sign(97)", x.sign(97), FULL);
        due("sign(256) when it is full", x.sign(256), BAD);
        due("sign(-1) when it is full", x.sign(-1), BAD);
        due("clear()", x.clear(), 30);
        due("sign(97)", x.sign(97), 1);
        longestWordCounts();
    }

    private static void longestWordCounts() {
        HyphenRows x = latin();
        pattern(x, 0, "1a3.5");
        word(x, "aaaaaaaaaaaaaaaaaaaaaaaaaaaaaa");
        duePlaces(x, 0, 29);
        due("digit(0, 30)", x.digit(0, 30), 3);
        due("digit(0, 31)", x.digit(0, 31), BAD);
        due("exception(0, -1)", x.exception(0, -1), 0);
        due("run(0)", x.run(0), 29);
        due("at(28)", x.at(28), 29);
        due("at(29)", x.at(29), -1);
        due("digit(0, 0)", x.digit(0, 0), 1);
        due("digit(0, 30)", x.digit(0, 30), 1);
    }

    private static void clear() {
        HyphenRows x = latin();
        due("clear()", x.clear(), 0);
        word(x, "abc");
        pattern(x, 0, "1b");
        x.exception(0, 4);
        due("clear()", x.clear(), 3);
        due("clear()", x.clear(), 0);
        due("digit(0, 0)", x.digit(0, 0), 0);
        due("digit(0, 1)", x.digit(0, 1), BAD);
        due("run(0)", x.run(0), 0);
        due("patterns()", x.patterns(), 1);
        due("exceptions()", x.exceptions(), 1);
        x.next(1, 0);
        x.clear();
        due("the pattern in the making stays", x.next(1, 0), 2);
    }

    private static void exceptionNumbers() {
        HyphenRows x = latin();
        due("no signs", x.exception(0, 1), NO);
        due("no signs, another language", x.exception(1, 1), BAD);
        word(x, "ab");
        for (int far : FAR) {
            due("exception(" + far + ", 0)", x.exception(far, 0), BAD);
        }
        due("exception(1, 0)", x.exception(1, 0), BAD);
        due("ab", x.exception(0, 0), 0);
        word(x, "abc");
        due("abc", x.exception(0, 0), 1);
        word(x, "a");
        due("a", x.exception(0, 0), 2);
        word(x, "AB");
        due("AB has the letters of ab", x.exception(0, 2), 0);
        duePlaces(x, 0, 1);
        word(x, "ab");
        duePlaces(x, 0, 1);
        addLatin(x);
        due("ab in another language", x.exception(1, 0), 3);
        duePlaces(x, 1);
        duePlaces(x, 0, 1);
        word(x, "a-b");
        due("a sign without a code", x.exception(0, 0), NO);
        word(x, "ab-");
        due("the last sign without a code", x.exception(0, 0), NO);
        due("the same, another language", x.exception(2, 0), BAD);
        due("exceptions()", x.exceptions(), 4);
    }

    private static void exceptionPlaces() {
        HyphenRows x = latin();
        pattern(x, 0, "9a9b9c9d9");
        word(x, "abcd");
        dueDigits(x, 0, "99999");
        x.exception(0, 0);
        dueDigits(x, 0, "00000");
        x.exception(0, 1 << 2);
        dueDigits(x, 0, "00100");
        duePlaces(x, 0, 2);
        x.exception(0, 1 | 1 << 4);
        dueDigits(x, 0, "10001");
        duePlaces(x, 0);
        x.exception(0, -1);
        dueDigits(x, 0, "11111");
        duePlaces(x, 0, 1, 2, 3);
        x.exception(0, 1 << 5 | 1 << 31);
        dueDigits(x, 0, "00000");
        x.exception(0, -1);
        x.ends(0, 2, 2, false);
        duePlaces(x, 0, 2);
        word(x, "xabcd");
        dueDigits(x, 0, "099999");
        word(x, "abc");
        dueDigits(x, 0, "0000");
    }

    private static void exceptionMostInAll() {
        HyphenRows x = latin();
        addLatin(x);
        for (int i = 0; i < 20; i++) {
            x.clear();
            x.sign('a' + i);
            due("exception", x.exception(0, 0), 2 * i);
            due("exception", x.exception(1, 0), 2 * i + 1);
        }
        word(x, "z");
        due("one more", x.exception(0, 0), FULL);
        due("BAD before FULL", x.exception(2, 0), BAD);
        word(x, "-");
        due("NO before FULL", x.exception(0, 0), NO);
        word(x, "t");
        due("one that is there", x.exception(1, 1), 39);
        due("its places count", x.digit(1, 0), 1);
        due("exceptions()", x.exceptions(), 40);
        due("drop(3)", x.drop(3), 1);
        word(x, "z");
        due("there is room again", x.exception(0, 0), 39);
        due("exceptions()", x.exceptions(), 40);
    }

    private static void exceptionKeepsLetters() {
        HyphenRows x = latin();
        word(x, "ab");
        x.exception(0, 2);
        x.code(0, 'a', 5, false);
        duePlaces(x, 0);
        x.code(0, 'q', 1, false);
        word(x, "qb");
        duePlaces(x, 0, 1);
        due("the letters are the same", x.exception(0, 2), 0);
    }

    private static void drop() {
        HyphenRows x = latin();
        due("drop(0)", x.drop(0), BAD);
        for (String text : new String[] {"aa", "bb", "cc"}) {
            word(x, text);
            x.exception(0, 2);
        }
        for (int far : FAR) {
            due("drop(" + far + ")", x.drop(far), BAD);
        }
        due("drop(3)", x.drop(3), BAD);
        due("exceptions()", x.exceptions(), 3);
        due("drop(1)", x.drop(1), 1);
        due("exceptions()", x.exceptions(), 2);
        due("drop(2)", x.drop(2), BAD);
        word(x, "bb");
        duePlaces(x, 0);
        word(x, "cc");
        duePlaces(x, 0, 1);
        due("cc's number is one less", x.exception(0, 2), 1);
        word(x, "aa");
        due("aa keeps its number", x.exception(0, 2), 0);
        word(x, "bb");
        due("bb again", x.exception(0, 0), 2);
        due("drop(0)", x.drop(0), 1);
        due("drop(0)", x.drop(0), 1);
        due("drop(0)", x.drop(0), 1);
        due("drop(0)", x.drop(0), BAD);
        pattern(x, 0, "b1b");
        duePlaces(x, 0, 1);
    }

    private static void run() {
        HyphenRows x = latin();
        addLatin(x);
        due("no signs", x.run(0), 0);
        for (int far : FAR) {
            due("run(" + far + ")", x.run(far), BAD);
        }
        due("run(2)", x.run(2), BAD);
        pattern(x, 0, "1a2b3c4d5e6f7g8h9i");
        word(x, "abcdefghi");
        duePlaces(x, 0, 2, 4, 6, 8);
        duePlaces(x, 1);
        pattern(x, 1, "a1b1c");
        duePlaces(x, 1, 1, 2);
        word(x, "a-cdefghi");
        duePlaces(x, 0);
        word(x, "abcdefghi-");
        duePlaces(x, 0);
        word(x, "a");
        duePlaces(x, 0);
        pattern(x, 0, "1a1");
        word(x, "aa");
        duePlaces(x, 0, 1);
        x.ends(0, 0, 0, false);
        dueDigits(x, 0, "111");
        duePlaces(x, 0, 1);
        x.ends(0, 2, 3, false);
        word(x, "aaaa");
        duePlaces(x, 0);
        word(x, "aaaaa");
        duePlaces(x, 0, 2);
    }

    private static void at() {
        HyphenRows x = latin();
        addLatin(x);
        due("before any run", x.at(0), -1);
        pattern(x, 0, "1a");
        word(x, "aaa");
        due("still before any run", x.at(0), -1);
        duePlaces(x, 0, 1, 2);
        for (int far : FAR) {
            due("at(" + far + ")", x.at(far), -1);
        }
        x.clear();
        x.ends(0, 20, 20, true);
        x.digit(0, 0);
        due("at(0) of the latest run", x.at(0), 1);
        due("at(1) of the latest run", x.at(1), 2);
        due("at(2) of the latest run", x.at(2), -1);
        due("run(2)", x.run(2), BAD);
        due("a run that is BAD is none", x.at(1), 2);
        due("run(1)", x.run(1), 0);
        due("at(0)", x.at(0), -1);
        due("at(1)", x.at(1), -1);
    }

    private static void digit() {
        HyphenRows x = latin();
        addLatin(x);
        for (int far : FAR) {
            due("digit(" + far + ", 0)", x.digit(far, 0), BAD);
            due("digit(0, " + far + ")", x.digit(0, far), BAD);
        }
        due("digit(2, 0)", x.digit(2, 0), BAD);
        dueDigits(x, 0, "0");
        pattern(x, 0, "2a4c6");
        pattern(x, 0, "8.8a");
        pattern(x, 0, "c7.7");
        word(x, "ac");
        dueDigits(x, 0, "847");
        dueDigits(x, 1, "000");
        word(x, "ac-");
        dueDigits(x, 0, "0000");
        due("digit(2, 0)", x.digit(2, 0), BAD);
        x.ends(0, 20, 20, true);
        word(x, "Ac");
        dueDigits(x, 0, "847");
    }

    private static void patternCount() {
        HyphenRows x = latin();
        due("patterns()", x.patterns(), 0);
        x.next(1, 0);
        due("one in the making is none yet", x.patterns(), 0);
        x.pattern(0, 10);
        due("after BAD", x.patterns(), 0);
        x.pattern(0, 0);
        due("after one", x.patterns(), 1);
        x.pattern(0, 0);
        due("after NO", x.patterns(), 1);
        pattern(x, 0, "3a");
        due("after the same row", x.patterns(), 1);
        addLatin(x);
        pattern(x, 1, "3a");
        due("in all languages", x.patterns(), 2);
    }

    private static void exceptionCount() {
        HyphenRows x = latin();
        due("exceptions()", x.exceptions(), 0);
        x.exception(0, 0);
        due("after NO", x.exceptions(), 0);
        word(x, "ab");
        x.exception(1, 0);
        due("after BAD", x.exceptions(), 0);
        x.exception(0, 0);
        due("after one", x.exceptions(), 1);
        x.exception(0, 2);
        due("after the same letters", x.exceptions(), 1);
        addLatin(x);
        x.exception(1, 2);
        due("in all languages", x.exceptions(), 2);
        x.drop(0);
        due("after drop", x.exceptions(), 1);
    }
}
