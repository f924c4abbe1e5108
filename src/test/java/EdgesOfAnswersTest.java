/**
 * Terms 3: like ones, least and greatest answers of FITS, ASK, STROKES, KEEP, MEND, ROOM, BEARS, ROW, DRAWN and odds,
 * and of a SENTENCE said of BANDS.
 */
public final class EdgesOfAnswersTest {
    public static void main(String[] args) {
        readFromSomePlaceOn();
        fitsUpToTheWidth();
        fitsWhateverStands();
        askOfLikeOnes();
        askAtTheLeastGreatest();
        askOfSixLaws();
        strokesOfEachSign();
        keepByAge();
        keepByWidth();
        keepByWhatStands();
        keepByTheFewest();
        mendOfLikeOnes();
        mendWhatIsMissing();
        roomOfLikeOnes();
        roomToTheLastPlace();
        roomWithoutLapsedOnes();
        bearsByTheNearest();
        lapsedLawsAreStillRead();
        rowsOfEachSign();
        drawsWrap();
        drawsWithinTheBand();
        drawsAsLongAsHeCan();
        drawsWithoutSome();
        oddsBehindTwentyHours();
        oddsBySeedsThatWrap();
        oddsAtTheLastHours();
        saidAtTheBounds();
        saidOfTwentyOnes();
        mostOfEachSort();
        fewerOnANewShore();
        Check.finish();
    }

    private static void put(SandLetters x, int b, String row) {
        for (int place = 0; place < row.length(); place++) {
            if (row.charAt(place) != '.') {
                int w = 0;
                while (x.writer(w, 1) == x.writer(w, 0)) {
                    w++;
                }
                Check.is("put " + row, x.write(w, b, place, row.charAt(place) - '0'), 0);
            }
        }
    }

    /** "if its signs stand there one behind the other, from some place on". */
    private static void readFromSomePlaceOn() {
        String[] rows = {"123..", ".123.", "..123", "12.3.", "1.23.", "12...", "...12", "321..", "1123.", "12123"};
        boolean[] three = {true, true, true, false, false, false, false, false, true, true};
        boolean[] two = {true, true, true, true, false, true, true, false, true, true};
        for (int i = 0; i < rows.length; i++) {
            SandLetters x = Check.made("band a 9 5;writer w 9;law l 123;law m 12;");
            put(x, 0, rows[i]);
            int due = (three[i] ? 1 : 0) + (two[i] ? 2 : 0);
            Check.is("in " + rows[i], x.band(0, 4), due);
            Check.is("now in " + rows[i], x.now(3), due);
            Check.is("first in " + rows[i], x.law(0, 3), three[i] ? 0 : -1);
            Check.is("mend in " + rows[i], x.mend(1) == 0 ? 1 : 0, two[i] ? 1 : 0);
        }
    }

    // ---- FITS and ASK ----

    private static void fitsUpToTheWidth() {
        SandLetters x = Check.made("band a 9 2;band b 9 3;law l 12;law m 123;law n 34;law o 345;law p 56;law q 567;");
        Check.is("two places", x.fits(0), 0b010101);
        Check.is("three places", x.fits(1), 0b111111);
        Check.is("no LAWS", Check.made("band a 9 12;").fits(0), 0);
    }

    private static void fitsWhateverStands() {
        String[] rows = {"....", "1...", ".1..", "..1.", "...1", "12..", "..12", "1..2", ".23.", "9..9", "9.9.", "99.9", "9999", "123."};
        for (int i = 0; i < rows.length; i++) {
            SandLetters x = Check.made("band a 9 4;writer w 9;law l 12;law m 123;");
            put(x, 0, rows[i]);
            int fits = 0;
            for (int l = 0; l < 2; l++) {
                String law = l == 0 ? "12" : "123";
                for (int at = 0; at + law.length() <= 4; at++) {
                    boolean may = true;
                    for (int k = 0; k < law.length(); k++) {
                        char c = rows[i].charAt(at + k);
                        may &= c == '.' || c == law.charAt(k);
                    }
                    fits |= may ? 1 << l : 0;
                }
            }
            Check.is("fits " + rows[i], x.fits(0), fits);
            Check.is("ask none " + rows[i], x.ask(0) == -1 ? 1 : 0, fits == 0 || rows[i].indexOf('.') < 0 ? 1 : 0);
        }
    }

    /** "(of like ones the first)". */
    private static void askOfLikeOnes() {
        SandLetters x = Check.made("band a 9 12;writer w 9;law l 12;");
        Check.is("all alike", x.ask(0), 0);
        x.write(0, 0, 0, 5);
        Check.is("the first without a sign", x.ask(0), 1);
        SandLetters y = Check.made("band a 9 2;writer w 9;law l 12;law m 34;");
        Check.is("both tell them apart", y.ask(0), 0);
        SandLetters z = Check.made("band a 9 3;writer w 9;law l 123;");
        put(z, 0, "12.");
        Check.is("the last alone is left", z.ask(0), 2);
        z.write(0, 0, 2, 3);
        Check.is("none is left", z.ask(0), -1);
    }

    /** "whatever sign one learns to have been there, the greatest number of LAWS that still FIT is the least". */
    private static void askAtTheLeastGreatest() {
        SandLetters x = Check.made("band a 9 3;writer w 9;law l 101;law m 102;law n 113;law o 124;");
        // place 0: a 1 leaves four; place 1: a 0 leaves two; place 2: each sign leaves one.
        Check.is("the last tells all apart", x.ask(0), 2);
        SandLetters y = Check.made("band a 9 3;writer w 9;law l 111;law m 121;law n 131;law o 241;");
        // place 0: a 1 leaves three; place 1: one each; place 2: a 1 leaves four.
        Check.is("the middle", y.ask(0), 1);
        SandLetters z = Check.made("band a 9 2;law l 90;law m 91;law n 99;");
        Check.is("9 at 0 leaves three, 0, 1, 9 at 1 one each", z.ask(0), 1);
        SandLetters u = Check.made("band a 9 2;law l 20;law m 30;law n 90;");
        Check.is("0 at 1 leaves three", u.ask(0), 0);
    }

    private static void askOfSixLaws() {
        String laws = "law l 12;law m 34;law n 56;law o 78;law p 90;law q 13;";
        Check.is("all six fit whatever one learns", Check.made("band a 9 12;" + laws).ask(0), 0);
        // In two places: a 1 at place 0 leaves 12 and 13, any sign at place 1 leaves one.
        Check.is("the second", Check.made("band a 9 2;" + laws).ask(0), 1);
        SandLetters x = Check.made("band a 9 3;law l 111;law m 112;law n 113;law o 114;law p 115;law q 116;");
        Check.is("a 1 at the first two leaves six", x.ask(0), 2);
        SandLetters y = Check.made("band a 9 6;law l 11;law m 21;law n 31;law o 41;law p 51;law q 61;");
        Check.is("six are left by any", y.ask(0), 0);
    }

    /** "STROKES of a sign: 0: 6, 1: 1, 2: 5, 3: 5, 4: 4, 5: 5, 6: 6, 7: 3, 8: 7, 9: 6." */
    private static void strokesOfEachSign() {
        int[] strokes = {6, 1, 5, 5, 4, 5, 6, 3, 7, 6};
        for (int sign = 0; sign <= 9; sign++) {
            SandLetters x = Check.made("band a 9 2;writer w 9;law l 1" + sign + ";");
            Check.is("of the LAW", x.law(0, 4), 1 + strokes[sign]);
            Check.is("to mend all", x.mend(0), 1 + strokes[sign]);
            x.write(0, 0, 0, 1);
            Check.is("to mend the last", x.mend(0), strokes[sign]);
            x.write(0, 0, 1, sign);
            Check.is("written", x.now(6), 1 + strokes[sign]);
            Check.is("to mend none", x.mend(0), 0);
        }
        Check.is("the most", Check.made("law l 888;").law(0, 4), 21);
        Check.is("the least", Check.made("law l 11;").law(0, 4), 2);
    }

    // ---- KEEP ----

    /** As many HOURS as are left to its AGE go without writing, one more does not. */
    private static void keepByAge() {
        for (int lapse = 1; lapse <= 17; lapse++) {
            for (int age = 0; age < lapse; age++) {
                SandLetters x = Check.made("band a 9 2;tide 0;law l 10;lapse " + lapse + ";");
                if (age > 0) {
                    x.hours(age);
                }
                int free = lapse - age - 1;
                if (free >= 1) {
                    Check.is("free hours of lapse " + lapse + " age " + age, x.keep(0, free), 0);
                }
                if (free + 1 <= 16) {
                    Check.is("one more of lapse " + lapse + " age " + age, x.keep(0, free + 1), 1);
                }
            }
        }
        SandLetters x = Check.made("band a 9 2;law l 10;lapse 30;");
        x.hours(13);
        Check.is("sixteen free hours", x.keep(0, 16), 0);
        x.hours(1);
        Check.is("fifteen free hours", x.keep(0, 16), 1);
        x.hours(15);
        Check.is("age 29", x.keep(0, 1), 1);
    }

    /** "in a BAND that is WIDE enough (other signs no matter)". */
    private static void keepByWidth() {
        SandLetters x = Check.made("band a 9 2;band b 1 3;tide 1;writer w 9;law l 12;law m 123;lapse 1;");
        Check.is("two in two", x.keep(0, 16), 1);
        Check.is("three in three, but it is washed", x.keep(1, 1), -1);
        put(x, 0, "99");
        Check.is("other signs no matter", x.keep(0, 16), 1);
        SandLetters y = Check.made("band a 9 2;band b 2 3;tide 1;law l 123;lapse 1;");
        Check.is("three in three", y.keep(0, 16), 1);
    }

    /** "in BANDS in which it can be read now, it stands till they are washed". */
    private static void keepByWhatStands() {
        SandLetters x = Check.made("band a 5 2;band b 6 2;tide 0;tide 5;tide 0;tide 6;writer w 9;law l 12;lapse 1;");
        put(x, 0, "12");
        Check.is("one hour in a", x.keep(0, 1), 0);
        Check.is("HOUR 1 washes a", x.keep(0, 2), 1);
        put(x, 1, "12");
        Check.is("three hours in b", x.keep(0, 3), 0);
        Check.is("HOUR 3 washes all", x.keep(0, 4), -1);
        x.tread(0, 0);
        Check.is("b alone", x.keep(0, 3), 0);
        x.tread(1, 1);
        Check.is("none", x.keep(0, 1), 1);
    }

    private static void keepByTheFewest() {
        // A tide of 9 each second HOUR: with 'lapse' 2 it must be written in each dry HOUR but the first of one alone.
        SandLetters x = Check.made("band a 9 2;tide 0;tide 9;law l 12;lapse 2;");
        for (int k = 1; k <= 16; k++) {
            Check.is("keep " + k, x.keep(0, k), k == 1 ? 0 : (k + 1) / 2);
        }
        x.hours(1);
        // HOUR 1 washes and makes AGE 2.
        Check.is("age 1 and a wash", x.keep(0, 1), -1);
        // Writing in the high BAND once, though a low one is dry for longer now.
        SandLetters y = Check.made("band a 2 2;band b 8 2;tide 1;tide 1;tide 1;tide 3;law l 12;lapse 1;");
        Check.is("once in b", y.keep(0, 16), 1);
        SandLetters z = Check.made("band a 9 2;tide 0;tide 0;tide 0;tide 0;tide 0;tide 0;tide 0;tide 9;law l 12;lapse 2;");
        Check.is("eight hours", z.keep(0, 8), 1);
        Check.is("nine hours need one more", z.keep(0, 9), 2);
        Check.is("sixteen", z.keep(0, 16), 2);
    }

    // ---- MEND ----

    /** "of like ones the least BAND, then the least place of its first sign". */
    private static void mendOfLikeOnes() {
        SandLetters x = Check.made("band a 9 2;band b 9 12;band c 9 12;writer w 9;writer v 9;law l 123;law m 11;");
        Check.is("a is too narrow", x.mend(0), 11);
        Check.is("the least BAND that is WIDE enough", x.mendAt(0), 1);
        Check.is("the least place", x.mendAt(1), 0);
        put(x, 2, "..........2.");
        Check.is("the 2 is there in c", x.mend(0), 6);
        Check.is("c", x.mendAt(0), 2);
        Check.is("place 9", x.mendAt(1), 9);
        put(x, 2, "....2.......");
        Check.is("twice in c", x.mend(0), 6);
        Check.is("the least place", x.mendAt(1), 3);
        put(x, 1, "...........2");
        Check.is("in b no 3 has room behind it", x.mend(0), 6);
        Check.is("still c", x.mendAt(0), 2);
        put(x, 1, "........2...");
        Check.is("in b, too", x.mend(0), 6);
        Check.is("the least BAND", x.mendAt(0), 1);
        Check.is("its place", x.mendAt(1), 7);
        Check.is("eleven", x.mend(1), 2);
        Check.is("a", x.mendAt(0), 0);
    }

    /** "which of its signs must be written, as bits (the first is bit 0)". */
    private static void mendWhatIsMissing() {
        String[] rows = {"...", "1..", ".2.", "..3", "12.", "1.3", ".23", "123"};
        int[] strokes = {11, 10, 6, 6, 5, 5, 1, 0};
        int[] missing = {7, 6, 5, 3, 4, 2, 1, 0};
        for (int i = 0; i < rows.length; i++) {
            SandLetters x = Check.made("band a 9 3;writer w 9;law l 123;");
            put(x, 0, rows[i]);
            Check.is("mend " + rows[i], x.mend(0), strokes[i]);
            Check.is("missing in " + rows[i], x.mendAt(2), missing[i]);
            Check.is("nothing was written", x.now(5), 3 - Integer.bitCount(missing[i]));
        }
        for (String row : new String[] {"9..", ".9.", "..9", "129", "321"}) {
            SandLetters x = Check.made("band a 9 3;writer w 9;law l 123;");
            put(x, 0, row);
            Check.is("nowhere in " + row, x.mend(0), -1);
            Check.is("ahead of any", x.mendAt(0), -1);
        }
        Check.is("no BANDS", Check.made("law l 123;").mend(0), -1);
        Check.is("too narrow", Check.made("band a 9 2;law l 123;").mend(0), -1);
    }

    // ---- ROOM ----

    private static void roomIs(String text, int bands, int... of) {
        SandLetters x = Check.made(text);
        Check.is("room of " + text, x.room(), bands);
        for (int l = 0; l < 6; l++) {
            Check.is("law " + l + " of " + text, x.roomOf(l), l < of.length ? of[l] : -1);
        }
    }

    /** "the fewest BANDS"; "of like ones the first: LAW by LAW the least BAND". */
    private static void roomOfLikeOnes() {
        roomIs("band a 1 2;band b 1 2;law l 12;", 1, 0);
        roomIs("band a 1 2;band b 1 3;law l 123;", 1, 1);
        roomIs("band a 1 2;band b 1 2;law l 12;law m 34;", 2, 0, 1);
        roomIs("band a 1 2;band b 1 4;law l 12;law m 34;", 1, 1, 1);
        roomIs("band a 1 3;band b 1 2;band c 1 3;law l 12;law m 345;", 2, 0, 2);
        roomIs("band a 1 3;band b 1 5;band c 1 5;law l 12;law m 345;law n 678;", 2, 1, 0, 1);
    }

    private static void roomToTheLastPlace() {
        roomIs("band a 1 12;law l 12;law m 13;law n 14;law o 15;law p 16;law q 17;", 1, 0, 0, 0, 0, 0, 0);
        roomIs("band a 1 12;band b 1 2;law l 12;law m 13;law n 14;law o 15;law p 16;law q 178;", 2, 0, 0, 0, 0, 1, 0);
        roomIs("band a 1 12;law l 123;law m 134;law n 145;law o 156;", 1, 0, 0, 0, 0);
        roomIs("band a 1 12;law l 123;law m 134;law n 145;law o 156;law p 16;", -1);
        roomIs("band a 1 3;band b 1 3;band c 1 3;band d 1 3;band e 1 3;band f 1 3;"
            + "law l 123;law m 134;law n 145;law o 156;law p 167;law q 178;", 6, 0, 1, 2, 3, 4, 5);
        roomIs("band a 1 3;band b 1 3;band c 1 3;band d 1 3;band e 1 3;band f 1 2;"
            + "law l 123;law m 134;law n 145;law o 156;law p 167;law q 178;", -1);
    }

    private static void roomWithoutLapsedOnes() {
        SandLetters x = Check.made("band a 9 3;band b 9 4;writer w 9;law l 12;law m 345;law n 67;lapse 1;");
        Check.is("two bands", x.room(), 2);
        Check.is("l", x.roomOf(0), 1);
        Check.is("m", x.roomOf(1), 0);
        Check.is("n", x.roomOf(2), 1);
        put(x, 0, "345");
        x.hours(1);
        Check.is("l and n have lapsed", x.now(4), 0b101);
        Check.is("one band", x.room(), 1);
        Check.is("l", x.roomOf(0), -1);
        Check.is("m", x.roomOf(1), 0);
        Check.is("n", x.roomOf(2), -1);
    }

    // ---- BEARS, ROW ----

    private static void bearsIs(String text, int... due) {
        SandLetters x = Check.made(text);
        for (int l = 0; l < due.length; l++) {
            Check.is("bears " + l + " of " + text, x.bears(l), due[l]);
        }
    }

    /** "so that no other LAW of as many signs fits what is left (there is none: all)". */
    private static void bearsByTheNearest() {
        bearsIs("law l 12;", 2);
        bearsIs("law l 123;", 3);
        bearsIs("law l 12;law m 123;", 2, 3);
        bearsIs("law l 12;law m 13;", 0, 0);
        bearsIs("law l 12;law m 21;", 1, 1);
        bearsIs("law l 123;law m 124;", 0, 0);
        bearsIs("law l 123;law m 145;", 1, 1);
        bearsIs("law l 123;law m 231;", 2, 2);
        bearsIs("law l 123;law m 456;law n 127;", 0, 2, 0);
        bearsIs("law l 123;law m 456;law n 156;law o 99;law p 12;law q 789;", 1, 0, 0, 1, 1, 2);
    }

    /** "its NAME, a blank, and for each place the sign as a digit, or '.'". */
    /** A LAW that has LAPSED is still one: but for KEEP and ROOM no sentence leaves it out. */
    private static void lapsedLawsAreStillRead() {
        SandLetters x = Check.made("band a 9 3;band b 9 2;writer w 9;law l 12;law m 345;law n 346;lapse 1;");
        x.hours(1);
        Check.is("all have LAPSED", x.now(4), 0b111);
        Check.is("all fit", x.fits(0), 0b111);
        Check.is("ask for the sign in the midst", x.ask(0), 1);
        Check.is("ask in b", x.ask(1), 0);
        Check.is("mend", x.mend(1), 14);
        Check.is("one other is near", x.bears(1), 0);
        Check.is("no other", x.bears(0), 2);
        Check.is("not kept", x.keep(0, 1), -1);
        Check.is("no room for none", x.room(), 0);
        put(x, 0, "345");
        put(x, 1, "12");
        Check.is("read in a", x.band(0, 4), 0b010);
        Check.is("read in b", x.band(1, 4), 0b001);
        Check.is("read", x.now(3), 0b011);
        Check.is("first BAND", x.law(0, 3), 1);
        saysIs(x, "holds l", 0b10);
        saysIs(x, "holds m", 0b01);
        saysIs(x, "holds n", 0);
        x.hours(1);
        Check.is("it has LAPSED for good", x.now(4), 0b111);
        Check.is("and is read", x.now(3), 0b011);
    }

    private static void rowsOfEachSign() {
        SandLetters x = Check.made("band abcdefg 9 12;band z 9 2;band zyxwvut 9 2;writer w 9;writer v 9;");
        put(x, 0, "0123456789.0");
        Check.rowIs(x, 0, "abcdefg 0123456789.0");
        Check.rowIs(x, 1, "z ..");
        Check.rowIs(x, 2, "zyxwvut ..");
        Check.is("the latest", x.byteAt(0), 'z');
        Check.is("its last", x.byteAt(9), '.');
        Check.is("none behind", x.byteAt(10), -1);
    }

    // ---- DRAWN ----

    /** "x becomes x * 1103515245 + 12345 (an int, wrapping), the draw is (x >>> 8) % n". */
    private static void drawsWrap() {
        int[] seeds = {0, 1, -1, 12345, Integer.MAX_VALUE, Integer.MIN_VALUE, 1 << 30, -1103515245};
        for (int seed : seeds) {
            SandLetters x = Check.made("band a 9 12;band b 9 12;band c 9 12;writer w 9;law l 12;law m 345;law n 67;law o 89;law p 10;");
            long v = seed;
            int[] draws = new int[5];
            int[] of = {5, 3, 12, 3, 12};
            for (int i = 0; i < 5; i++) {
                v = v * 1103515245L + 12345L & 0xffffffffL;
                draws[i] = (int) ((v >> 8) % of[i]);
            }
            Check.is("drawn", x.drawn(1, seed), 1);
            String[] laws = {"12", "345", "67", "89", "10"};
            StringBuilder[] rows = {new StringBuilder("............"), new StringBuilder("............"), new StringBuilder("............")};
            String law = laws[draws[0]];
            for (int k = 0; k < law.length() && draws[2] + k < 12; k++) {
                rows[draws[1]].setCharAt(draws[2] + k, law.charAt(k));
            }
            rows[draws[3]].setCharAt(draws[4], '.');
            for (int b = 0; b < 3; b++) {
                Check.rowIs(x, b, (char) ('a' + b) + " " + rows[b]);
            }
        }
    }

    /** "they are within the BAND": a seed whose place is p, in BANDS of each width. */
    private static void drawsWithinTheBand() {
        for (int p = 0; p < 12; p++) {
            int seed = seedForPlace(p);
            for (int wide = 2; wide <= 12; wide++) {
                SandLetters x = Check.made("band a 9 " + wide + ";writer w 9;law l 123;");
                x.drawn(1, seed);
                int due = Math.max(0, Math.min(3, wide - p));
                Check.is("written at " + p + " of " + wide, x.now(5), due);
            }
        }
    }

    private static int draw(int[] x, int n) {
        x[0] = x[0] * 1103515245 + 12345;
        return (x[0] >>> 8) % n;
    }

    /** A seed by which the first place that is drawn is p. */
    private static int seedForPlace(int p) {
        for (int seed = 0; ; seed++) {
            int[] x = {seed};
            draw(x, 1);
            draw(x, 1);
            if (draw(x, 12) == p) {
                return seed;
            }
        }
    }

    /** "as long as he can"; "(a place that has a sign is passed by)". */
    private static void drawsAsLongAsHeCan() {
        int seed = seedForPlace(0);
        for (int pace = 1; pace <= 4; pace++) {
            SandLetters x = Check.made("band a 9 12;writer w " + pace + ";law l 123;");
            x.drawn(1, seed);
            Check.is("written at a pace of " + pace, x.now(5), Math.min(3, pace));
        }
        String[] rows = {"9..", ".9.", "..9", "99.", "999"};
        String[] due = {"923", "193", "129", "993", "999"};
        for (int i = 0; i < rows.length; i++) {
            SandLetters x = Check.made("band a 9 12;writer w 9;law l 123;");
            put(x, 0, rows[i]);
            x.hours(1);
            x.drawn(1, seed);
            int[] v = {seed};
            for (int k = 0; k < 4; k++) {
                draw(v, 1);
            }
            StringBuilder row = new StringBuilder(due[i] + ".........");
            row.setCharAt(draw(v, 12), '.');
            Check.rowIs(x, 0, "a " + row);
        }
        SandLetters x = Check.made("band a 9 12;writer w 2;law l 123;");
        x.write(0, 0, 11, 9);
        x.drawn(1, seed);
        Check.is("one of two was written ahead", x.now(5), 2);
    }

    /** "(BANDS and LAWS some: else no draws of his)"; "then a draw of all BANDS (some), of 12". */
    private static void drawsWithoutSome() {
        // Without LAWS the first two draws are the treading's.
        for (int seed = 0; seed < 30; seed++) {
            SandLetters x = Check.made("band a 9 12;writer w 9;writer v 9;");
            put(x, 0, "123456789012");
            x.hours(1);
            Check.is("drawn", x.drawn(1, seed), 1);
            int[] v = {seed};
            draw(v, 1);
            int place = draw(v, 12);
            Check.is("trodden out", x.sign(0, place), -1);
            Check.is("that one alone", x.now(2), 11);
            Check.is("nobody wrote", x.now(5), 12);
        }
        SandLetters y = Check.made("writer w 9;law l 10;lapse 2;");
        Check.is("no BANDS", y.drawn(3, 1), 3);
        Check.is("lapsed", y.now(4), 1);
        SandLetters z = Check.made("band a 9 12;law l 10;lapse 2;");
        Check.is("no WRITERS", z.drawn(2, 1), 2);
        Check.is("nobody wrote", z.now(5), 0);
        SandLetters u = Check.made("band a 9 2;band b 9 2;writer w 1;");
        Check.is("a place that is none is not trodden on", u.drawn(60, 1), 60);
        Check.is("none", u.now(2), 0);
    }

    // ---- odds ----

    /** "has not LAPSED behind 20 HOURS DRAWN from now on". */
    private static void oddsBehindTwentyHours() {
        for (int lapse = 19; lapse <= 22; lapse++) {
            SandLetters x = Check.made("law l 10;law m 11;lapse " + lapse + ";");
            Check.is("lapse " + lapse, x.odds(0, 30, 1), lapse > 20 ? 30 : 0);
            Check.is("one seed", x.odds(1, 1, 1), lapse > 20 ? 1 : 0);
            x.hours(1);
            Check.is("a HOUR later " + lapse, x.odds(0, 30, 1), lapse > 21 ? 30 : 0);
            x.hours(60);
            Check.is("lapsed already", x.odds(0, 30, 1), 0);
        }
        SandLetters y = Check.made("law l 10;lapse 30;");
        y.hours(9);
        Check.is("age 9 of 30", y.odds(0, 5, 1), 5);
        y.hours(1);
        Check.is("age 10 of 30", y.odds(0, 5, 1), 0);
    }

    /** "Of n seeds x, x and 1, ..". */
    private static void oddsBySeedsThatWrap() {
        SandLetters x = Check.made("band a 5 12;band b 9 5;tide 5;tide 0;writer v 9;writer w 9;law l 12;law m 345;lapse 6;");
        int first = Integer.MAX_VALUE - 14;
        int sum = 0;
        for (int n = 1; n <= 30; n++) {
            x.drawn(20, first + n - 1);
            sum += 1 - x.law(1, 2);
            x.undo();
            Check.is("odds by " + n, x.odds(1, n, first), sum);
        }
        Check.yes("some and not all", sum > 0 && sum < 30);
    }

    // ---- said ----

    private static void saysIs(SandLetters x, String text, int bands) {
        Check.yes("sentence " + text, Check.sentence(x, text) > 0);
        int got = 0;
        for (int k = 0; k < x.said(-1); k++) {
            got |= 1 << x.said(k);
        }
        Check.is("said " + text, got, bands);
    }

    private static void saidAtTheBounds() {
        SandLetters x = Check.made("band a 1 2;band b 5 3;band c 9 12;tide 5;tide 4;writer w 9;writer v 9;law l 12;law m 123;");
        put(x, 0, "12");
        put(x, 1, "12.");
        saysIs(x, "bare", 0b100);
        saysIs(x, "full", 0b001);
        saysIs(x, "wet", 0b011);
        saysIs(x, "holds l", 0b011);
        saysIs(x, "holds m", 0);
        saysIs(x, "by w", 0b011);
        saysIs(x, "by v", 0);
        saysIs(x, "height<5", 0b001);
        saysIs(x, "height=5", 0b010);
        saysIs(x, "height>5", 0b100);
        saysIs(x, "height<1", 0);
        saysIs(x, "height>9", 0);
        saysIs(x, "signs<2", 0b100);
        saysIs(x, "signs=2", 0b011);
        saysIs(x, "signs>2", 0);
        saysIs(x, "signs>1", 0b011);
        saysIs(x, "number<1", 0b001);
        saysIs(x, "number=1", 0b010);
        saysIs(x, "number>1", 0b100);
        saysIs(x, "washed<1", 0b111);
        x.write(1, 1, 2, 3);
        saysIs(x, "full", 0b011);
        saysIs(x, "by v", 0b010);
        saysIs(x, "holds m", 0b010);
        x.hours(1);
        saysIs(x, "wet", 0b001);
        saysIs(x, "washed=1", 0b011);
        saysIs(x, "washed>0", 0b011);
        saysIs(x, "washed<1", 0b100);
        saysIs(x, "bare", 0b111);
        x.hours(1);
        saysIs(x, "washed>1", 0b001);
        saysIs(x, "washed=1", 0b010);
        saysIs(x, "not washed=1 and not wet", 0b100);
    }

    /** 20 HOURS go by draws as far as there are some: none at 400, one at 399. */
    private static void oddsAtTheLastHours() {
        for (int lapse = 1; lapse <= 3; lapse++) {
            SandLetters x = Check.made("band a 9 2;writer w 9;law l 12;lapse " + lapse + ";");
            put(x, 0, "12");
            for (int i = 0; i < 6; i++) {
                x.hours(60);
            }
            x.hours(38);
            x.tread(0, 0);
            x.write(0, 0, 0, 9);
            Check.is("398: two go, lapse " + lapse, x.odds(0, 30, 7), oddsByCalls(x));
            x.undo();
            x.undo();
            x.hours(1);
            x.tread(0, 0);
            x.write(0, 0, 0, 9);
            Check.is("399: one goes, lapse " + lapse, x.odds(0, 30, 7), lapse > 1 ? 30 : 0);
            x.undo();
            x.undo();
            x.hours(1);
            Check.is("400", x.now(0), 400);
            x.tread(0, 0);
            x.write(0, 0, 0, 9);
            Check.is("400: none goes, lapse " + lapse, x.odds(0, 30, 7), 30);
        }
    }

    private static int oddsByCalls(SandLetters x) {
        int standing = 0;
        for (int i = 0; i < 30; i++) {
            x.drawn(20, 7 + i);
            Check.is("to the end", x.now(0), 400);
            standing += 1 - x.law(0, 2);
            x.undo();
        }
        return standing;
    }

    private static void saidOfTwentyOnes() {
        SandLetters x = Check.made("band a 1 2;band b 5 3;band c 9 12;");
        saysIs(x, "full or ".repeat(19) + "number=1", 0b010);
        saysIs(x, "bare and ".repeat(19) + "number=2", 0b100);
        saysIs(x, "wet or ".repeat(18) + "number=0 and number=0", 0b001);
        saysIs(x, "number=0 or " + "wet or ".repeat(18) + "wet", 0b001);
        saysIs(x, "not full and ".repeat(9) + "not number=1", 0b101);
        saysIs(x, "(full)or ".repeat(9) + "(number=2)", 0b100);
        saysIs(x, "not not not not not not not number=1", 0b101);
        saysIs(x, "(((((((number=1)))))))or(((((((number=2)))))))", 0b110);
        saysIs(x, "wet or (".repeat(7) + "number=1" + ")".repeat(7), 0b010);
        saysIs(x, "bare and (".repeat(7) + "number=1" + ")".repeat(7), 0b010);
    }

    private static final String RICH =
        "band a 1 12;band b 2 12;band c 3 12;band d 4 12;band e 5 12;band f 6 12;"
        + "tide 0;tide 1;tide 2;tide 3;tide 4;tide 5;tide 6;tide 7;"
        + "writer s 9;writer t 9;writer u 9;writer v 9;"
        + "law l 12;law m 123;law n 234;law o 345;law p 45;law q 567;lapse 30;";

    /** Six BANDS, eight tides, four WRITERS and six LAWS: the last of each sort is there and counts. */
    private static void mostOfEachSort() {
        SandLetters x = Check.made(RICH);
        Check.is("25 LINES", Check.shore(x, RICH), 25);
        put(x, 5, ".........567");
        for (int i = 0; i < 9; i++) {
            Check.is("the last WRITER", x.write(3, 4, i, i), 0);
        }
        Check.is("he can no more", x.write(3, 4, 9, 9), 1);
        Check.is("all signs", x.now(2), 12);
        Check.is("LAWS that can be read", x.now(3), 0b111111);
        Check.is("the last BAND", x.law(5, 3), 4);
        Check.is("fullest", x.fullest(), 4);
        Check.is("fits f", x.fits(5), 0b111111);
        Check.is("fits e", x.fits(4), 0b111111);
        Check.is("dry", x.dry(5), 7);
        Check.is("mend", x.mend(5), 0);
        Check.is("band", x.mendAt(0), 4);
        Check.is("place", x.mendAt(1), 5);
        Check.is("keep", x.keep(5, 16), 0);
        Check.is("room", x.room(), 2);
        Check.is("bears", x.bears(5), 2);
        Check.is("bears", x.bears(4), 1);
        x.tread(4, 5);
        Check.is("in the last BAND", x.law(5, 3), 5);
        Check.is("band", x.mend(5) + x.mendAt(0), 5);
        saysIs(x, "by v", 0b010000);
        saysIs(x, "by s", 0b100000);
        saysIs(x, "holds q", 0b100000);
        saysIs(x, "number=5 or number>4", 0b100000);
        Check.is("hours", x.hours(7), 7);
        Check.is("all are washed", x.now(2), 0);
        Check.is("the last once", x.band(5, 3), 1);
        Check.is("tide 7", x.now(1), 7);
        Check.is("age of the last", x.law(5, 1), 1);
        Check.is("drawn", x.drawn(60, 1), 60);
        Check.is("odds", x.odds(5, 30, 1) >= 0 ? 1 : 0, 1);
    }

    /** What a richer SHORE had is gone on a new one, in every answer. */
    private static void fewerOnANewShore() {
        SandLetters x = Check.made(RICH);
        for (int b = 0; b < 6; b++) {
            for (int k = 0; k < 3; k++) {
                x.write(b % 4, b, k, 1 + k);
            }
        }
        x.hours(1);
        Check.is("a poorer one", Check.shore(x, "band a 1 2;tide 1;law l 12;lapse 1;"), 4);
        Check.is("no sign", x.now(2), 0);
        Check.is("none to read", x.now(3), 0);
        Check.is("fullest", x.fullest(), 0);
        Check.is("fits", x.fits(0), 1);
        Check.is("ask", x.ask(0), 0);
        Check.is("dry", x.dry(0), 1);
        Check.is("no higher BAND to keep it in", x.keep(0, 1), -1);
        Check.is("mend", x.mend(0), 6);
        Check.is("room", x.room(), 1);
        Check.is("bears", x.bears(0), 2);
        Check.is("no second BAND", x.row(1), -1);
        Check.is("no WRITER", x.writer(0, 0), -1);
        Check.is("he can't write", x.write(0, 0, 0, 1), -1);
        Check.is("no second LAW", x.lawAt(1, 0), -1);
        Check.is("no third place", x.sign(0, 2), -1);
        saysIs(x, "bare", 1);
        Check.is("drawn", x.drawn(1, 1), 1);
        Check.is("nobody wrote", x.now(5), 0);
        Check.is("lapsed", x.now(4), 1);
        Check.is("washed", x.band(0, 3), 1);
        Check.is("and one without BANDS", Check.shore(x, "law m 123;lapse 1;"), 2);
        Check.is("can not be kept", x.keep(0, 1), -1);
        Check.is("nor mended", x.mend(0), -1);
        Check.is("no room", x.room(), -1);
        Check.is("no fullest", x.fullest(), -1);
        Check.is("no tide", x.now(1), -1);
    }
}
