/**
 * Terms, the texts: each sentence that names a bound of TOKENS, NUMBERS, NAMES, LINES, ONES or bytes, and each kind of
 * FAULT with its place, at the last input that is within and at the first one beyond.
 */
public final class EdgesOfTextsTest {
    private static final String SHORE = "band a 1 12;band b 9 2;tide 0;writer w 9;writer v 1;law l 12;law m 345;";
    private static final String[] RESERVED = {"band", "tide", "writer", "law", "lapse", "writes", "tread", "hour", "or", "and",
        "not", "bare", "full", "wet", "holds", "by", "height", "signs", "washed", "number"};

    public static void main(String[] args) {
        blanksAreTwoSignsAlone();
        lettersAreSmallOnesAlone();
        digitsAreTenSignsAlone();
        marksInASentence();
        wordsHaveSevenLettersAtMost();
        numbersHaveThreeDigitsAtMost();
        wordsAndNumbersGoOn();
        numbersOfAShore();
        numbersOfABook();
        numbersOfASentence();
        lawsBySigns();
        sixBands();
        eightTides();
        fourWriters();
        sixLaws();
        lapseOnce();
        namesAreNoWordsOfTheTexts();
        namesAreToldOnce();
        namesNotToldOrOfAnotherSort();
        fortyLines();
        twentyOnes();
        eightWithin();
        nineHundredBytes();
        fourHundredBytes();
        twoHundredBytes();
        theEndOfAText();
        firstAlongTheText();
        ofOneTokenTheLeast();
        emptyTexts();
        Check.finish();
    }

    // ---- how a text is taken ----

    private static void shoreIs(String text, int lines) {
        SandLetters x = new SandLetters();
        Check.is("shore '" + text + "'", Check.shore(x, text), lines);
        Check.is("fault of '" + text + "'", x.fault(), 0);
    }

    private static void shoreFault(String text, int kind, int place) {
        SandLetters x = new SandLetters();
        Check.is("shore '" + text + "'", Check.shore(x, text), -1 - place);
        Check.is("fault of '" + text + "'", x.fault(), kind);
    }

    private static void bookIs(String text, int line) {
        SandLetters x = Check.made(SHORE);
        Check.is("book '" + text + "'", Check.book(x, text, 0), line);
        Check.is("fault of '" + text + "'", x.fault(), 0);
    }

    private static void bookFault(String text, int kind, int place) {
        SandLetters x = Check.made(SHORE);
        Check.is("book '" + text + "'", Check.book(x, text, 0), -2 - place);
        Check.is("fault of '" + text + "'", x.fault(), kind);
    }

    private static void sentenceIs(String text, int ones) {
        SandLetters x = Check.made(SHORE);
        Check.is("sentence '" + text + "'", Check.sentence(x, text), ones);
        Check.is("fault of '" + text + "'", x.fault(), 0);
    }

    private static void sentenceFault(String text, int kind, int place) {
        SandLetters x = Check.made(SHORE);
        Check.is("sentence '" + text + "'", Check.sentence(x, text), -1 - place);
        Check.is("fault of '" + text + "'", x.fault(), kind);
    }

    private static boolean isBlank(int c) {
        return c == 32 || c == 10;
    }

    private static boolean isLetter(int c) {
        return c >= 97 && c <= 122;
    }

    private static boolean isDigit(int c) {
        return c >= 48 && c <= 57;
    }

    private static String blanks(int n) {
        return " ".repeat(n);
    }

    // ---- TOKENS ----

    /** "with blanks (32, 10) between them or not": each of the 256 bytes between two TOKENS. */
    private static void blanksAreTwoSignsAlone() {
        for (char c = 0; c < 256; c++) {
            boolean goesOn = isLetter(c) || isDigit(c);
            if (isBlank(c)) {
                shoreIs("tide" + c + "1;", 1);
                bookIs("hour" + c + "1;", -1);
                sentenceIs("not" + c + "wet", 2);
            } else {
                shoreFault("tide" + c + "1;", 1, goesOn ? 0 : 4);
                bookFault("hour" + c + "1;", 1, goesOn ? 0 : 4);
            }
        }
        shoreIs("tide 1;tide 2;", 2);
        shoreIs("\n \n\n tide \n 1 \n;\n \n", 1);
        shoreIs("band a 1 2;band b 1 2\n;", 2);
        sentenceIs("height<1 or not(wet)and bare", 5);
        sentenceIs("not(bare)or(wet)", 5);
    }

    /** "WORDS: small letters": each byte as a NAME of its own and behind a letter. */
    private static void lettersAreSmallOnesAlone() {
        for (char c = 0; c < 256; c++) {
            if (isLetter(c)) {
                shoreIs("writer " + c + " 1;", 1);
                shoreIs("writer q" + c + " 1;", 1);
            } else if (isBlank(c)) {
                shoreFault("writer " + c + " 1;", 1, 9);
                shoreIs("writer q" + c + " 1;", 1);
            } else {
                shoreFault("writer " + c + " 1;", 1, 7);
                shoreFault("writer q" + c + " 1;", 1, isDigit(c) ? 7 : 8);
            }
        }
    }

    /** "NUMBERS: digits": each byte as a NUMBER and behind a digit. */
    private static void digitsAreTenSignsAlone() {
        for (char c = 0; c < 256; c++) {
            if (isDigit(c)) {
                shoreIs("tide " + c + ";", 1);
                SandLetters x = Check.made("tide " + c + ";");
                Check.is("tide " + c, x.now(1), c - 48);
                shoreIs("tide 0" + c + ";", 1);
            } else if (isBlank(c)) {
                shoreFault("tide " + c + ";", 1, 6);
                shoreIs("tide 0" + c + ";", 1);
            } else {
                shoreFault("tide " + c + ";", 1, 5);
                shoreFault("tide 0" + c + "!", 1, isLetter(c) ? 5 : c == ';' ? 7 : 6);
            }
        }
    }

    /** "; < = > ( ) .": each byte as a SIGN, and as an opening and a closing bracket. */
    private static void marksInASentence() {
        for (char c = 0; c < 256; c++) {
            boolean run = isLetter(c) || isDigit(c);
            if (c == '<' || c == '=' || c == '>') {
                sentenceIs("height" + c + "1", 1);
            } else if (!isBlank(c)) {
                sentenceFault("height" + c + "1", 1, run ? 0 : 6);
            } else {
                sentenceFault("height" + c + "1", 1, 7);
            }
            if (c == '(') {
                sentenceIs(c + " wet)", 2);
            } else {
                sentenceFault(c + " wet)", 1, isBlank(c) ? 5 : 0);
            }
            if (c == ')') {
                sentenceIs("(wet " + c, 2);
            } else {
                sentenceFault("(wet " + c, 1, isBlank(c) ? 6 : 5);
            }
        }
    }

    /** "WORDS: small letters, 1 to 7". */
    private static void wordsHaveSevenLettersAtMost() {
        String letters = "abcdefghijklmnopqrstuvwxyz";
        for (int n = 1; n <= 7; n++) {
            shoreIs("band " + letters.substring(0, n) + " 1 2;", 1);
            shoreIs("band " + "z".repeat(n) + " 1 2;writer " + "a".repeat(n) + " 1;", 2);
        }
        for (int n = 8; n <= 26; n++) {
            shoreFault("band " + letters.substring(0, n) + " 1 2;", 1, 5);
            bookFault(letters.substring(0, n) + " writes a 0 0;", 1, 0);
            sentenceFault("holds " + letters.substring(0, n), 1, 6);
        }
        shoreFault("band " + "z".repeat(890) + " 1 2;", 1, 5);
        shoreIs("band abcdefg 1 2;band abcdefh 1 2;band bbcdefg 1 2;band bcdefg 1 2;band g 1 2;band gg 1 2;", 6);
        bookFault("writesx a 0 0;", 3, 0);
        bookFault("w writess a 0 0;", 1, 2);
        bookFault("w writesss a 0 0;", 1, 2);
    }

    /** "NUMBERS: 1 to 3 digits". */
    private static void numbersHaveThreeDigitsAtMost() {
        shoreIs("tide 1;tide 01;tide 001;", 3);
        shoreFault("tide 0001;", 1, 5);
        shoreFault("tide 0000;", 1, 5);
        shoreFault("tide " + "0".repeat(890) + ";", 1, 5);
        shoreFault("tide 4294967297;", 1, 5);
        shoreFault("tide 10000000001;", 1, 5);
        bookIs("hour 060;", -1);
        bookFault("hour 0060;", 1, 5);
        sentenceIs("signs=012", 1);
        sentenceFault("signs=0012", 1, 6);
        // Four digits are no TOKEN, not even where their value is the number of the mark that is due: ; < ( )
        shoreFault("tide 5 0059", 1, 7);
        bookFault("hour 5 0059", 1, 7);
        sentenceFault("signs 0060 5", 1, 6);
        sentenceFault("0040 bare)", 1, 0);
        sentenceFault("(bare 0041", 1, 6);
    }

    /** "A WORD, NUMBER goes on as long as small letters and digits do; what is not as told is no TOKEN." */
    private static void wordsAndNumbersGoOn() {
        shoreFault("tide1;", 1, 0);
        shoreFault("tide 1;tide2;", 1, 7);
        shoreFault("band a1 1 2;", 1, 5);
        shoreFault("band 1a 1 2;", 1, 5);
        shoreFault("band a 1a 2;", 1, 7);
        shoreFault("band a 1 2b;", 1, 9);
        bookFault("hour1;", 1, 0);
        bookFault("w writes a 0 0x;", 1, 13);
        sentenceFault("signs=1or wet", 1, 6);
        sentenceFault("wetor bare", 1, 0);
        sentenceFault("wet2", 1, 0);
    }

    // ---- the range of each NUMBER ----

    /** Both ends of a range are taken; one less and one more is FAULT 2 at the NUMBER. */
    private static void shoreRange(String ahead, int least, int greatest, String behind) {
        shoreIs(ahead + least + behind, 1);
        shoreIs(ahead + greatest + behind, 1);
        if (least > 0) {
            shoreFault(ahead + (least - 1) + behind, 2, ahead.length());
            shoreFault(ahead + 0 + behind, 2, ahead.length());
        }
        if (greatest < 999) {
            shoreFault(ahead + (greatest + 1) + behind, 2, ahead.length());
            shoreFault(ahead + 999 + behind, 2, ahead.length());
        } else {
            shoreFault(ahead + 1000 + behind, 1, ahead.length());
        }
    }

    private static void numbersOfAShore() {
        shoreRange("band a ", 1, 9, " 2;");
        shoreRange("band a 1 ", 2, 12, ";");
        shoreRange("tide ", 0, 9, ";");
        shoreRange("writer w ", 1, 9, ";");
        shoreRange("law l ", 10, 999, ";");
        shoreRange("lapse ", 1, 30, ";");
        SandLetters x = Check.made("band a 1 2;band b 9 12;tide 0;tide 9;writer v 1;writer w 9;law l 10;law m 999;lapse 30;");
        Check.is("height 1", x.band(0, 0), 1);
        Check.is("height 9", x.band(1, 0), 9);
        Check.is("wide 2", x.band(0, 1), 2);
        Check.is("wide 12", x.band(1, 1), 12);
        Check.is("tide 0", x.now(1), 0);
        Check.is("pace 1", x.writer(0, 0), 1);
        Check.is("pace 9", x.writer(1, 0), 9);
        Check.is("two signs", x.law(0, 0), 2);
        Check.is("three signs", x.law(1, 0), 3);
        Check.is("lapse 30", x.count(4), 30);
        Check.is("lapse 1", Check.made("lapse 1;").count(4), 1);
        Check.is("law 99 has two signs", Check.made("law l 99;").law(0, 0), 2);
        Check.is("law 100 has three", Check.made("law l 100;").law(0, 0), 3);
    }

    private static void numbersOfABook() {
        bookIs("w writes a 0 0;", -1);
        bookIs("w writes a 11 9;", -1);
        bookFault("w writes a 12 9;", 2, 11);
        bookFault("w writes a 999 9;", 2, 11);
        bookFault("w writes a 0 10;", 2, 13);
        bookFault("w writes a 0 999;", 2, 13);
        // BAND b has two places: a place up to 11 is no FAULT, but WRONG.
        bookIs("w writes b 1 0;", -1);
        bookIs("w writes b 2 0;", 0);
        bookIs("w writes b 11 0;", 0);
        bookFault("w writes b 12 0;", 2, 11);
        bookIs("w writes a 0 0;tread a 0;", -1);
        bookIs("w writes a 11 0;tread a 11;", -1);
        bookFault("tread a 12;", 2, 8);
        bookFault("tread a 999;", 2, 8);
        bookIs("hour 1;", -1);
        bookIs("hour 60;", -1);
        bookFault("hour 0;", 2, 5);
        bookFault("hour 61;", 2, 5);
        bookFault("hour 999;", 2, 5);
    }

    private static void numbersOfASentence() {
        for (String what : new String[] {"height", "signs", "washed", "number"}) {
            sentenceIs(what + "<0", 1);
            sentenceIs(what + ">999", 1);
            sentenceFault(what + "=1000", 1, what.length() + 1);
            sentenceFault(what + "=", 1, what.length() + 1);
        }
    }

    /** "its signs are its digits; no two LAWS have the same". */
    private static void lawsBySigns() {
        shoreIs("law l 10;law m 100;law n 101;law o 11;", 4);
        shoreFault("law l 10;law m 10;", 3, 15);
        shoreFault("law l 999;law m 998;law n 999;", 3, 26);
        shoreFault("law l 10;law m 100;law n 100;", 3, 25);
    }

    // ---- one more than there may be ----

    private static String lines(int n, String head, String tail) {
        StringBuilder s = new StringBuilder();
        for (int i = 0; i < n; i++) {
            s.append(head.replace("?", "" + (char) ('a' + i))).append(tail.replace("?", "" + i));
        }
        return s.toString();
    }

    private static void most(int n, String head, String tail) {
        String full = lines(n, head, tail);
        String word = head.substring(0, head.contains(" ") ? head.indexOf(' ') : head.length());
        shoreIs(full, n);
        shoreFault(lines(n + 1, head, tail), 4, full.length());
        shoreFault(full + "\n " + word, 4, full.length() + 2);
        shoreFault(full + word + " !", 4, full.length());
        shoreIs(full + (word.equals("tide") ? "band z 1 2;" : "tide 0;"), n + 1);
    }

    private static void sixBands() {
        most(6, "band ? ", "1 2;");
        Check.is("six", Check.made(lines(6, "band ? ", "1 2;")).count(0), 6);
    }

    private static void eightTides() {
        most(8, "tide ", "?;");
        Check.is("eight", Check.made(lines(8, "tide ", "?;")).count(3), 8);
    }

    private static void fourWriters() {
        most(4, "writer ? ", "1;");
        Check.is("four", Check.made(lines(4, "writer ? ", "1;")).count(1), 4);
    }

    private static void sixLaws() {
        most(6, "law ? ", "1?;");
        Check.is("six", Check.made(lines(6, "law ? ", "1?;")).count(2), 6);
    }

    /** "'lapse' N (1 to 30 HOURS; once; 3 without)"; "3 'lapse' told again (at it)". */
    private static void lapseOnce() {
        Check.is("without", Check.made("tide 1;").count(4), 3);
        Check.is("once", Check.made("lapse 7;tide 1;").count(4), 7);
        shoreFault("lapse 7;lapse 7;", 3, 8);
        shoreFault("lapse 3;tide 1; lapse 3;", 3, 16);
        shoreFault("lapse 3;lapse 31;", 3, 8);
        shoreFault("lapse 3;lapse", 3, 8);
    }

    // ---- NAMES ----

    /** "NAME: a WORD, none of those told here, in a BOOK or a SENTENCE". */
    private static void namesAreNoWordsOfTheTexts() {
        for (String word : RESERVED) {
            shoreFault("band " + word + " 1 2;", 1, 5);
            shoreFault("writer " + word + " 1;", 1, 7);
            shoreFault("law " + word + " 10;", 1, 4);
            bookFault("w writes " + word + " 0 0;", 1, 9);
            bookFault("tread " + word + " 0;", 1, 6);
            sentenceFault("holds " + word, 1, 6);
            sentenceFault("by " + word, 1, 3);
            if (!word.equals("tread") && !word.equals("hour")) {
                bookFault(word + " writes a 0 0;", 1, 0);
            }
            String longer = word.length() < 7 ? word + "x" : word;
            if (!longer.equals(word)) {
                shoreIs("band " + longer + " 1 2;", 1);
            }
            shoreIs("law " + word.substring(1) + "q 10;", 1);
        }
        shoreIs("band sand 1 2;writer ban 1;law laws 10;", 3);
    }

    /** "told once": of whatever sort; "3 a NAME told twice". */
    private static void namesAreToldOnce() {
        String[] heads = {"band x 1 2;", "writer x 1;", "law x 77;"};
        String[] others = {"band x 1 2;", "writer x 1;", "law x 88;"};
        for (String first : heads) {
            for (String second : others) {
                shoreFault(first + second, 3, first.length() + second.indexOf('x'));
                shoreIs(first + second.replace('x', 'y'), 2);
            }
        }
        SandLetters x = Check.made("band x 1 2;");
        Check.is("on a new SHORE it is told once", Check.shore(x, "law x 10;"), 1);
        Check.is("a FAULT", Check.shore(x, "writer y 1;tide 10;"), -17);
        Check.is("its NAMES were not told", Check.shore(x, "writer y 1;"), 1);
    }

    private static void namesNotToldOrOfAnotherSort() {
        bookIs("w writes a 0 0;", -1);
        for (String name : new String[] {"z", "a", "b", "l", "m", "ww", "wa"}) {
            bookFault(name + " writes a 0 0;", 3, 0);
            sentenceFault("by " + name, 3, 3);
        }
        for (String name : new String[] {"z", "w", "v", "l", "m", "aa", "ab"}) {
            bookFault("w writes " + name + " 0 0;", 3, 9);
            bookFault("tread " + name + " 0;", 3, 6);
        }
        for (String name : new String[] {"z", "a", "b", "w", "v", "ll", "lm"}) {
            sentenceFault("holds " + name, 3, 6);
        }
        sentenceIs("holds m", 1);
        sentenceIs("by v", 1);
        SandLetters x = Check.made(SHORE);
        Check.shore(x, "band n 1 2;writer o 1;law p 10;");
        Check.is("a WRITER of the SHORE ahead", Check.book(x, "w writes n 0 0;", 0), -2);
        Check.is("not told", x.fault(), 3);
        Check.is("a LAW of the SHORE ahead", Check.sentence(x, "holds l"), -7);
        Check.is("not told", x.fault(), 3);
    }

    // ---- 40 LINES, 20 ONES, 8 within one another ----

    private static void fortyLines() {
        String forty = "hour 1;".repeat(40);
        bookIs(forty, -1);
        bookFault(forty + "hour 1;", 4, 280);
        bookFault(forty + "\nhour", 4, 281);
        bookFault(forty + "tread !", 4, 280);
        bookFault(forty + "w !", 4, 280);
        bookIs("w writes a 0 0;tread a 0;".repeat(9) + "hour 1;".repeat(22), -1);
        String mixed = "hour 1;tread a 0;".repeat(20);
        bookIs(mixed, 1);
        bookFault(mixed + "tread a 0;", 4, mixed.length());
        SandLetters x = Check.made(SHORE);
        Check.book(x, forty, 1);
        Check.is("forty lived", x.told(1), 40);
        Check.is("hour 40", x.now(0), 40);
    }

    private static void twentyOnes() {
        String nineteen = "wet or ".repeat(19);
        sentenceIs(nineteen + "wet", 20);
        sentenceFault(nineteen + "wet or wet", 4, 140);
        sentenceFault(nineteen + "wet or (", 4, 140);
        sentenceFault(nineteen + "wet or not", 4, 140);
        sentenceFault(nineteen + "(wet)", 4, 134);
        sentenceFault(nineteen + "not wet", 4, 137);
        sentenceFault(nineteen + "by z", 3, 136);
        sentenceIs("(wet)or ".repeat(9) + "(wet)", 20);
        sentenceFault("(wet)or ".repeat(10) + "wet", 4, 80);
        sentenceIs("not wet or ".repeat(9) + "not wet", 20);
        sentenceIs("not not not wet and ".repeat(4) + "not not not wet", 20);
    }

    private static void eightWithin() {
        for (int n = 0; n <= 7; n++) {
            sentenceIs("not ".repeat(n) + "wet", n + 1);
            sentenceIs("(".repeat(n) + "wet" + ")".repeat(n), n + 1);
            String mixed = "not(".repeat(n / 2) + "not ".repeat(n % 2) + "wet" + ")".repeat(n / 2);
            sentenceIs(mixed, n + 1);
        }
        for (int n = 8; n <= 12; n++) {
            sentenceFault("not ".repeat(n) + "wet", 4, 32);
            sentenceFault("(".repeat(n) + "wet" + ")".repeat(n), 4, 8);
            sentenceFault("not(".repeat(n / 2) + "not ".repeat(n % 2) + "wet" + ")".repeat(n / 2), 4, 16);
        }
        // What stands side by side is not within.
        sentenceIs("((((((wet or wet or wet or wet)or wet)or wet)or wet)or wet)or wet)or wet", 16);
        sentenceIs("(((((((wet and bare and full)))))))or not wet", 12);
    }

    // ---- bytes ----

    /** "of at most 900 bytes": whole LINES up to the last byte, blanks up to it, and one byte more. */
    private static void nineHundredBytes() {
        shoreIs("tide 1;" + blanks(893), 1);
        shoreFault("tide 1;" + blanks(894), 1, 900);
        shoreIs(blanks(893) + "tide 1;", 1);
        shoreFault(blanks(894) + "tide 1;", 1, 900);
        shoreFault("tide 1;" + "\n".repeat(933), 1, 900);
        // TOKENS that begin ahead of the bound are read whole, and no others.
        shoreFault(blanks(899) + "lapses 1;", 1, 899);
        shoreFault(blanks(899) + "lapse 31;", 1, 900);
        shoreFault(blanks(900) + "lapses 1;", 1, 900);
        shoreFault("tide" + blanks(895) + "10;", 2, 899);
        shoreFault("tide" + blanks(895) + "1000;", 1, 899);
        shoreFault("tide" + blanks(895) + "9;", 1, 900);
        shoreFault("tide" + blanks(896) + "10;", 1, 900);
        shoreFault("lapse 1;" + blanks(891) + "lapse 2;", 3, 899);
        shoreFault("lapse 1;" + blanks(892) + "lapse 2;", 1, 900);
        shoreFault("band a 1 2;writer" + blanks(882) + "a 1;", 3, 899);
        shoreFault(lines(8, "tide ", "?;") + blanks(843) + "tide 9;", 4, 899);
        shoreFault(lines(8, "tide ", "?;") + blanks(844) + "tide 9;", 1, 900);
        // A FAULT ahead is the one that counts.
        shoreFault("tide 10;" + blanks(932), 2, 5);
        shoreFault(blanks(890) + "tide 10;" + blanks(42), 2, 895);
    }

    private static void fourHundredBytes() {
        bookIs("hour 1;" + blanks(393), -1);
        bookFault("hour 1;" + blanks(394), 1, 400);
        bookIs(blanks(393) + "hour 1;", -1);
        bookFault(blanks(394) + "hour 1;", 1, 400);
        bookFault(blanks(399) + "z writes", 3, 399);
        bookFault(blanks(400) + "z writes", 1, 400);
        bookFault("hour" + blanks(395) + "61;", 2, 399);
        bookFault("hour" + blanks(395) + "60;", 1, 400);
        bookFault("hour" + blanks(396) + "61;", 1, 400);
        bookFault("hour 1;".repeat(40) + blanks(119) + "hour 1;", 4, 399);
        bookFault("hour 1;".repeat(40) + blanks(120) + "hour 1;", 1, 400);
        bookFault("hour 0;" + blanks(933), 2, 5);
    }

    private static void twoHundredBytes() {
        sentenceIs("wet" + blanks(197), 1);
        sentenceFault("wet" + blanks(198), 1, 200);
        sentenceIs(blanks(197) + "wet", 1);
        sentenceFault(blanks(198) + "wet", 1, 200);
        sentenceFault("by" + blanks(197) + "zz", 3, 199);
        sentenceFault("by" + blanks(198) + "zz", 1, 200);
        sentenceFault("wet or ".repeat(20) + blanks(59) + "wet", 4, 199);
        sentenceFault("wet or ".repeat(20) + blanks(60) + "wet", 1, 200);
        sentenceFault("by z" + blanks(936), 3, 3);
    }

    /** "the end: how many bytes there are". */
    private static void theEndOfAText() {
        String shore = "band a 1 2";
        int[] ends = {4, 6, 8, 10};
        for (int end : ends) {
            shoreFault(shore.substring(0, end), 1, end);
            shoreFault(shore.substring(0, end) + "\n  ", 1, end + 3);
        }
        shoreFault(shore + blanks(890), 1, 900);
        String book = "w writes a 0 0";
        for (int end : new int[] {1, 8, 10, 12, 14}) {
            bookFault(book.substring(0, end), 1, end);
            bookFault(book.substring(0, end) + "  ", 1, end + 2);
        }
        for (String text : new String[] {"not", "(", "(wet", "wet or", "wet and", "holds", "by", "height", "height<"}) {
            sentenceFault(text, 1, text.length());
            sentenceFault(text + " \n", 1, text.length() + 2);
        }
    }

    // ---- which FAULT ----

    private static void firstAlongTheText() {
        shoreFault("band a 0 1;", 2, 7);
        shoreFault("band a 1 1;band a 0 0;", 2, 9);
        shoreFault("tide 1;!;tide 10;", 1, 7);
        shoreFault("lapse 1;lapse 99;!", 3, 8);
        shoreFault("law l 10;law l 10;", 3, 13);
        shoreFault("law l 10;law m 10!", 3, 15);
        bookFault("z writes z 99 99;", 3, 0);
        bookFault("w writes z 99 99;", 3, 9);
        bookFault("w writes a 99 99;", 2, 11);
        bookFault("w writes a 0 99!", 2, 13);
        sentenceFault("by z or holds z or !", 3, 3);
        sentenceFault("wet wet or by z", 1, 4);
    }

    private static void ofOneTokenTheLeast() {
        String forty = "hour 1;".repeat(40);
        bookFault(forty + "!", 1, 280);
        bookFault(forty + ";", 1, 280);
        bookFault(forty + "lapse 1;", 1, 280);
        bookFault(forty + "abcdefgh writes", 1, 280);
        bookFault(forty + "z writes", 3, 280);
        bookFault(forty + "a writes", 3, 280);
        String twenty = "wet or ".repeat(20);
        sentenceFault(twenty + "!", 1, 140);
        sentenceFault(twenty + ")", 1, 140);
        sentenceFault(twenty + "or", 1, 140);
        sentenceFault(twenty + "z", 1, 140);
        sentenceFault(twenty + "wetter", 1, 140);
        sentenceFault(twenty, 1, 140);
        String eight = "(".repeat(8);
        sentenceFault(eight + "!", 1, 8);
        sentenceFault(eight + ")", 1, 8);
        sentenceFault(eight + "z", 1, 8);
        sentenceFault(eight, 1, 8);
        shoreFault(lines(6, "band ? ", "1 2;") + "bandit", 1, 66);
    }

    private static void emptyTexts() {
        shoreIs("", 0);
        shoreIs(blanks(900), 0);
        bookIs("", -1);
        bookIs(blanks(400), -1);
        sentenceFault("", 1, 0);
        sentenceFault(blanks(200), 1, 200);
    }
}
