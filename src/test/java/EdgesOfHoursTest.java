/**
 * Terms 2: why a sign is not written or a place not trodden on, HOURS 399 and 400, the table's number modulo how many
 * it has, washing at just its HEIGHT, LAWS that LAPSE at just their AGE; with promises 13 to 16 and 19, 20, 29, 31 there.
 */
public final class EdgesOfHoursTest {
    public static void main(String[] args) {
        asManyAsHeCan();
        thereIsASign();
        ofBothTheLeast();
        placesOfABand();
        signsFromZeroToNine();
        thereIsNoSignToTread();
        oneToSixtyHours();
        theLastHour();
        behindTheLastHour();
        tableModulo();
        noTable();
        heightNotAboveTheTide();
        washedFirstThenRead();
        lapsesAtJustThatAge();
        readAnewAtTheLast();
        lapsedForGood();
        nobodyHasWritten();
        dryByTheLastHour();
        keptBeyondTheLastHour();
        drawnUpToTheLastHour();
        aBookUpToTheLastHour();
        eightActsAreKept();
        eachKindOfActIsUndone();
        Check.finish();
    }

    private static void toHour(SandLetters x, int hour) {
        for (int i = 0; i < 8 && x.now(0) < hour; i++) {
            x.hours(Math.min(hour - x.now(0), 60));
        }
        Check.is("hour", x.now(0), hour);
    }

    // ---- to WRITE, to TREAD ----

    /** "1 the WRITER wrote as many in this HOUR as he can". */
    private static void asManyAsHeCan() {
        for (int pace = 1; pace <= 9; pace++) {
            SandLetters x = Check.made("band a 9 12;writer w " + pace + ";writer v 1;");
            for (int hour = 0; hour < 2; hour++) {
                for (int i = 0; i < pace; i++) {
                    Check.is("sign " + i + " of " + pace, x.write(0, 0, i, 5), 0);
                    Check.is("so many", x.writer(0, 1), i + 1);
                }
                Check.is("one more than " + pace, x.write(0, 0, pace, 5), 1);
                Check.is("none came", x.sign(0, pace), -1);
                Check.is("as many as he can", x.writer(0, 1), pace);
                Check.is("written", x.now(5), pace * (hour + 1));
                Check.is("the other one can", x.write(1, 0, 11, 5), 0);
                x.undo();
                Check.is("treading gives no time back", x.tread(0, 0), 0);
                Check.is("so he can't", x.write(0, 0, 0, 5), 1);
                x.hours(1);
                for (int i = 1; i < pace; i++) {
                    x.tread(0, i);
                }
            }
        }
    }

    /** "2 there is a sign: it stands there, by his hand". */
    private static void thereIsASign() {
        SandLetters x = Check.made("band a 9 2;writer w 9;writer v 9;");
        Check.is("none there", x.write(1, 0, 1, 0), 0);
        Check.is("a sign by another", x.write(0, 0, 1, 3), 2);
        Check.is("a sign by himself", x.write(1, 0, 1, 3), 2);
        Check.is("the sign stays", x.sign(0, 1), 0);
        Check.is("the hand stays", x.hand(0, 1), 1);
        Check.is("not counted", x.writer(0, 1), 0);
        Check.is("written", x.now(5), 1);
        Check.is("strokes", x.now(6), 6);
        x.tread(0, 1);
        Check.is("none there again", x.write(0, 0, 1, 3), 0);
        Check.is("by his hand", x.hand(0, 1), 0);
    }

    /** "why not, the least". */
    private static void ofBothTheLeast() {
        SandLetters x = Check.made("band a 9 2;writer w 1;");
        x.write(0, 0, 0, 1);
        Check.is("both", x.write(0, 0, 0, 1), 1);
        Check.is("the first alone", x.write(0, 0, 1, 1), 1);
        x.hours(1);
        Check.is("the second alone", x.write(0, 0, 0, 1), 2);
        Check.is("none", x.write(0, 0, 1, 1), 0);
    }

    private static void placesOfABand() {
        for (int wide = 2; wide <= 12; wide++) {
            SandLetters x = Check.made("band a 9 " + wide + ";band b 9 12;writer w 9;");
            Check.is("first place", x.write(0, 0, 0, 7), 0);
            Check.is("last place of " + wide, x.write(0, 0, wide - 1, 8), 0);
            Check.is("behind the last of " + wide, x.write(0, 0, wide, 9), -1);
            Check.is("ahead of the first", x.write(0, 0, -1, 9), -1);
            Check.is("last sign", x.sign(0, wide - 1), 8);
            Check.is("no sign behind", x.sign(0, wide), -1);
            Check.is("no hand behind", x.hand(0, wide), -1);
            Check.is("tread behind", x.tread(0, wide), -1);
            Check.is("tread ahead", x.tread(0, -1), -1);
            Check.is("tread at the last", x.tread(0, wide - 1), 0);
            Check.is("none in the next band", x.band(1, 2), 0);
            Check.is("two written", x.now(5), 2);
        }
    }

    private static void signsFromZeroToNine() {
        SandLetters x = Check.made("band a 9 12;writer w 9;");
        Check.is("sign 0", x.write(0, 0, 0, 0), 0);
        Check.is("sign 9", x.write(0, 0, 1, 9), 0);
        Check.is("sign -1", x.write(0, 0, 2, -1), -1);
        Check.is("sign 10", x.write(0, 0, 2, 10), -1);
        Check.is("sign 10 where there is one", x.write(0, 0, 0, 10), -1);
        Check.rowIs(x, 0, "a 09..........");
    }

    /** "To TREAD on a place: 1 there is no sign: it is gone". */
    private static void thereIsNoSignToTread() {
        SandLetters x = Check.made("band a 9 2;writer w 1;");
        Check.is("never one", x.tread(0, 0), 1);
        x.write(0, 0, 0, 0);
        Check.is("the sign 0 is one", x.tread(0, 0), 0);
        Check.is("gone", x.sign(0, 0), -1);
        Check.is("trodden out already", x.tread(0, 0), 1);
        Check.is("two acts", x.undo(), 1);
    }

    // ---- HOURS ----

    private static void oneToSixtyHours() {
        SandLetters x = Check.made("band a 9 2;");
        Check.is("0", x.hours(0), -1);
        Check.is("61", x.hours(61), -1);
        Check.is("none went", x.now(0), 0);
        Check.is("none to undo", x.undo(), -1);
        Check.is("1", x.hours(1), 1);
        Check.is("60", x.hours(60), 60);
        Check.is("61 went", x.now(0), 61);
        Check.is("drawn 0", x.drawn(0, 1), -1);
        Check.is("drawn 61", x.drawn(61, 1), -1);
        Check.is("drawn 1", x.drawn(1, 1), 1);
        Check.is("drawn 60", x.drawn(60, 1), 60);
        Check.is("122 went", x.now(0), 122);
        Check.is("four acts", x.undo(), 3);
    }

    /** "An HOUR (0 to 399; 400: all are over)". */
    private static void theLastHour() {
        SandLetters x = Check.made("band a 9 2;tide 0;");
        toHour(x, 340);
        Check.is("sixty left", x.hours(60), 60);
        Check.is("400", x.now(0), 400);
        x.undo();
        x.hours(1);
        Check.is("59 left", x.hours(60), 59);
        Check.is("400", x.now(0), 400);
        x.undo();
        Check.is("58", x.hours(58), 58);
        Check.is("399", x.now(0), 399);
        Check.is("one left", x.hours(1), 1);
        Check.is("400", x.now(0), 400);
        x.undo();
        Check.is("of two one", x.hours(2), 1);
        Check.is("400", x.now(0), 400);
        Check.is("none", x.hours(1), 0);
        Check.is("none of sixty", x.hours(60), 0);
        Check.is("not as told", x.hours(0), -1);
        Check.is("not as told", x.hours(61), -1);
        Check.is("400", x.now(0), 400);
    }

    private static void behindTheLastHour() {
        SandLetters x = Check.made("band a 1 3;tide 0;tide 9;writer w 2;law l 12;lapse 30;");
        toHour(x, 399);
        Check.is("399 has tide 9", x.now(1), 9);
        x.write(0, 0, 0, 1);
        x.hours(1);
        Check.is("it washed", x.now(2), 0);
        Check.is("washed 200 times", x.band(0, 3), 200);
        Check.is("one can write at 400", x.write(0, 0, 0, 1), 0);
        Check.is("and write", x.write(0, 0, 1, 2), 0);
        Check.is("as much as he can", x.write(0, 0, 2, 3), 1);
        Check.is("and tread", x.tread(0, 0), 0);
        Check.is("but no HOUR goes", x.hours(1), 0);
        Check.is("so he has written", x.writer(0, 1), 2);
        Check.is("and three acts are kept behind the 399 hours'", x.undo(), 7);
        Check.is("the tread is undone, not the hour that did not go", x.sign(0, 0), 1);
    }

    /** "the tide is the one of the table whose number is the HOUR modulo how many the table has". */
    private static void tableModulo() {
        int[] table = {3, 1, 4, 1, 5, 9, 2, 6};
        for (int size = 1; size <= 8; size++) {
            StringBuilder s = new StringBuilder("band a 4 2;");
            for (int i = 0; i < size; i++) {
                s.append("tide ").append(table[i]).append(';');
            }
            SandLetters x = Check.made(s.toString());
            int washed = 0;
            for (int hour = 0; hour <= 100; hour++) {
                int tide = table[hour % size];
                Check.is("tide of hour " + hour + " of " + size, x.now(1), tide);
                Check.is("washed by " + hour, x.band(0, 3), washed);
                washed += tide >= 4 ? 1 : 0;
                x.hours(1);
            }
        }
        SandLetters x = Check.made("tide 1;tide 2;tide 3;tide 4;tide 5;tide 6;tide 7;");
        toHour(x, 399);
        Check.is("399 modulo 7 is 0", x.now(1), 1);
        x.hours(1);
        Check.is("400 modulo 7 is 1", x.now(1), 2);
        wetByTheTideOfThisHour();
    }

    /** "'wet' (the tide of this HOUR will wash it)": at HOUR 400 it goes by the same tide that now(1) tells. */
    private static void wetByTheTideOfThisHour() {
        SandLetters x = Check.made("band a 2 2;band b 4 2;tide 1;tide 2;tide 3;tide 4;tide 5;tide 6;tide 7;");
        Check.is("sentence", Check.sentence(x, "wet"), 1);
        for (int hour = 0; hour < 10; hour++) {
            int tide = 1 + hour % 7;
            Check.is("wet in HOUR " + hour, x.said(-1), (tide >= 2 ? 1 : 0) + (tide >= 4 ? 1 : 0));
            x.hours(1);
        }
        toHour(x, 399);
        Check.is("none at 399", x.said(-1), 0);
        toHour(x, 400);
        Check.is("the tide at 400", x.now(1), 2);
        Check.is("one at 400", x.said(-1), 1);
        Check.is("it is a", x.said(0), 0);
    }

    /** "(none: no tide)". */
    private static void noTable() {
        SandLetters x = Check.made("band a 1 2;writer w 9;law l 10;lapse 1;");
        Check.writeAll(x, 0, 0, 0, "10");
        Check.is("no tide", x.now(1), -1);
        Check.is("never", x.dry(0), -1);
        toHour(x, 400);
        Check.is("no tide", x.now(1), -1);
        Check.rowIs(x, 0, "a 10");
        Check.is("not washed", x.band(0, 3), 0);
        Check.is("read all the time", x.law(0, 1), 0);
    }

    /** "each BAND whose HEIGHT is not above it is washed: all its signs are gone": each HEIGHT by each tide. */
    private static void heightNotAboveTheTide() {
        for (int height = 1; height <= 9; height++) {
            for (int tide = 0; tide <= 9; tide++) {
                SandLetters x = Check.made("band a " + height + " 12;tide " + tide + ";writer w 9;");
                Check.sentence(x, "wet");
                x.write(0, 0, 0, 0);
                x.write(0, 0, 11, 9);
                boolean wet = height <= tide;
                String at = "height " + height + " tide " + tide;
                Check.is("wet " + at, x.said(-1), wet ? 1 : 0);
                Check.is("dry " + at, x.dry(0), wet ? 1 : -1);
                x.hours(1);
                Check.is("signs " + at, x.now(2), wet ? 0 : 2);
                Check.is("hand " + at, x.hand(0, 11), wet ? -1 : 0);
                Check.is("washed " + at, x.band(0, 3), wet ? 1 : 0);
            }
        }
    }

    /** "Then each LAW": what was washed off in this HOUR can't be read in it. */
    private static void washedFirstThenRead() {
        SandLetters x = Check.made("band a 5 2;band b 6 2;tide 5;tide 6;writer w 9;law l 10;law m 23;lapse 2;");
        Check.writeAll(x, 0, 0, 0, "10");
        Check.writeAll(x, 0, 1, 0, "23");
        x.hours(1);
        Check.is("washed off", x.law(0, 1), 1);
        Check.is("read", x.law(1, 1), 0);
        x.hours(1);
        Check.is("washed off, too", x.law(1, 1), 1);
        Check.is("one has lapsed", x.now(4), 1);
    }

    /** "else 1 more; if that is as much as 'lapse' tells then, it has LAPSED". */
    private static void lapsesAtJustThatAge() {
        for (int lapse = 1; lapse <= 30; lapse++) {
            SandLetters x = Check.made("law l 10;lapse " + lapse + ";");
            for (int age = 1; age < lapse; age++) {
                x.hours(1);
                Check.is("age", x.law(0, 1), age);
                Check.is("not lapsed at " + age + " of " + lapse, x.law(0, 2), 0);
            }
            Check.is("kept till then", x.keep(0, 1), -1);
            x.hours(1);
            Check.is("age " + lapse, x.law(0, 1), lapse);
            Check.is("lapsed at " + lapse, x.law(0, 2), 1);
            Check.is("as a bit", x.now(4), 1);
            x.hours(1);
            Check.is("no older", x.law(0, 1), lapse);
        }
        SandLetters x = Check.made("law l 10;");
        x.hours(2);
        Check.is("not lapsed by 2 without 'lapse'", x.law(0, 2), 0);
        x.hours(1);
        Check.is("lapsed by 3 without 'lapse'", x.law(0, 2), 1);
    }

    private static void readAnewAtTheLast() {
        SandLetters x = Check.made("band a 9 3;writer w 9;law l 101;law m 10;law n 11;law o 12;law p 13;law q 14;lapse 5;");
        x.hours(4);
        Check.writeAll(x, 0, 0, 0, "101");
        x.hours(1);
        Check.is("age 0", x.law(0, 1), 0);
        Check.is("age 0 of what is within it", x.law(1, 1), 0);
        Check.is("all others have lapsed", x.now(4), 0b111100);
        x.tread(0, 2);
        x.hours(4);
        Check.is("age 4", x.law(0, 1), 4);
        x.hours(1);
        Check.is("lapsed, too", x.now(4), 0b111101);
        Check.is("what can be read has not", x.law(1, 2), 0);
    }

    /** "each LAW that has not LAPSED": the others stay as they are. */
    private static void lapsedForGood() {
        SandLetters x = Check.made("band a 9 2;writer w 9;law l 10;lapse 1;");
        x.hours(1);
        Check.writeAll(x, 0, 0, 0, "10");
        Check.is("it can be read", x.now(3), 1);
        Check.is("in the first band", x.law(0, 3), 0);
        x.hours(60);
        Check.is("lapsed", x.law(0, 2), 1);
        Check.is("its age stays", x.law(0, 1), 1);
    }

    /** "It is the next HOUR, nobody has written". */
    private static void nobodyHasWritten() {
        SandLetters x = Check.made("band a 9 12;writer s 1;writer t 1;writer u 1;writer v 1;");
        for (int w = 0; w < 4; w++) {
            Check.is("writer " + w, x.write(w, 0, w, 1), 0);
        }
        x.hours(1);
        for (int w = 0; w < 4; w++) {
            Check.is("none by " + w, x.writer(w, 1), 0);
            Check.is("he can again", x.write(w, 0, 4 + w, 1), 0);
        }
        Check.is("all written stand", x.now(2), 8);
    }

    // ---- the last HOUR in other calls ----

    /** "NONE: never, not by HOUR 400"; "(the HOUR that washes it counted)". */
    private static void dryByTheLastHour() {
        SandLetters x = Check.made("band a 5 2;band b 4 2;tide 5;tide 0;tide 0;tide 0;tide 0;tide 4;tide 0;tide 0;");
        Check.is("at once", x.dry(0), 1);
        Check.is("at once, too", x.dry(1), 1);
        x.hours(1);
        Check.is("a whole round less none", x.dry(0), 8);
        Check.is("five", x.dry(1), 5);
        // HOUR 392 is 0 modulo 8, HOUR 397 is 5 modulo 8, HOUR 400 is 0 again.
        toHour(x, 392);
        Check.is("392 washes", x.dry(0), 1);
        x.hours(1);
        Check.is("the next would be 400", x.dry(0), -1);
        Check.is("397 washes", x.dry(1), 5);
        toHour(x, 397);
        Check.is("now", x.dry(1), 1);
        x.hours(1);
        Check.is("not by 400", x.dry(1), -1);
        toHour(x, 400);
        Check.is("none at 400", x.dry(0), -1);
        SandLetters y = Check.made("band a 5 2;tide 0;tide 0;tide 0;tide 0;tide 0;tide 0;tide 0;tide 5;");
        Check.is("the last of the table", y.dry(0), 8);
        toHour(y, 392);
        Check.is("HOUR 399 washes", y.dry(0), 8);
        toHour(y, 399);
        Check.is("HOUR 399 is this one", y.dry(0), 1);
        toHour(y, 400);
        Check.is("over", y.dry(0), -1);
    }

    /** "HOURS beyond 400 go on likewise." */
    private static void keptBeyondTheLastHour() {
        SandLetters x = Check.made("band a 5 2;band b 9 2;tide 5;tide 0;writer w 9;law l 10;lapse 2;");
        Check.writeAll(x, 0, 1, 0, "10");
        toHour(x, 399);
        x.tread(1, 0);
        // 399 is dry, 400 would wash band a.
        Check.is("once in b", x.keep(0, 16), 1);
        Check.is("not for one hour", x.keep(0, 1), 0);
        Check.is("for two", x.keep(0, 2), 1);
        x.hours(1);
        Check.is("age 1", x.law(0, 1), 1);
        Check.is("at 400 at once", x.keep(0, 1), 1);
        Check.is("and once", x.keep(0, 16), 1);
    }

    private static void drawnUpToTheLastHour() {
        SandLetters x = Check.made("band a 9 12;writer w 9;law l 10;law m 23;");
        toHour(x, 399);
        Check.is("one of sixty", x.drawn(60, 1), 1);
        Check.is("400", x.now(0), 400);
        Check.yes("somebody wrote", x.now(5) > 0);
        int written = x.now(5);
        Check.is("none", x.drawn(1, 2), 0);
        Check.is("nobody wrote", x.now(5), written);
        Check.is("not as told", x.drawn(0, 2), -1);
        x.undo();
        Check.is("the one that went is undone", x.now(0), 399);
    }

    /** "21: fewer HOURS are left". */
    private static void aBookUpToTheLastHour() {
        SandLetters x = Check.made("band a 9 2;writer w 9;");
        toHour(x, 341);
        Check.is("sixty of 59", Check.book(x, "hour 60;", 1), 0);
        Check.is("why", x.told(0), 21);
        Check.is("none goes", x.now(0), 341);
        Check.is("hour then", x.told(2), 341);
        Check.is("59 of 59", Check.book(x, "hour 59;", 0), -1);
        Check.is("hour then", x.told(2), 400);
        toHour(x, 399);
        Check.is("two of one", Check.book(x, "w writes a 0 5;hour 2;", 1), 1);
        Check.is("why", x.told(0), 21);
        Check.is("one line", x.told(1), 1);
        Check.is("399", x.now(0), 399);
        Check.is("the sign stands", x.sign(0, 0), 5);
        Check.is("one of one", Check.book(x, "hour 1;", 1), -1);
        Check.is("400", x.now(0), 400);
        Check.is("one of none", Check.book(x, "w writes a 1 5;tread a 1;hour 1;", 1), 2);
        Check.is("why", x.told(0), 21);
    }

    // ---- acts undone ----

    /** "how many more can be (8 at most are kept); NONE: none is". */
    private static void eightActsAreKept() {
        for (int acts = 0; acts <= 18; acts++) {
            SandLetters x = Check.made("band a 9 2;");
            for (int i = 0; i < acts; i++) {
                x.hours(1);
            }
            int kept = Math.min(acts, 8);
            for (int left = kept - 1; left >= 0; left--) {
                Check.is("of " + acts + " left", x.undo(), left);
                Check.is("hour", x.now(0), acts - kept + left);
            }
            Check.is("none behind " + acts, x.undo(), -1);
            Check.is("nothing changes then", x.now(0), acts - kept);
            x.hours(2);
            Check.is("a new act", x.undo(), 0);
            Check.is("hour", x.now(0), acts - kept);
        }
    }

    private static void eachKindOfActIsUndone() {
        SandLetters x = Check.made("band a 9 4;tide 0;writer w 3;law l 10;");
        String[] was = new String[6];
        was[0] = Snapshot.ofWhatIsSo(x);
        Check.is("write", x.write(0, 0, 0, 1), 0);
        was[1] = Snapshot.ofWhatIsSo(x);
        Check.is("tread", x.tread(0, 0), 0);
        was[2] = Snapshot.ofWhatIsSo(x);
        Check.is("hours", x.hours(1), 1);
        was[3] = Snapshot.ofWhatIsSo(x);
        Check.is("drawn", x.drawn(2, 7), 2);
        was[4] = Snapshot.ofWhatIsSo(x);
        Check.is("a BOOK, wrong at its second LINE", Check.book(x, "hour 1;tread a 11;", 1), 1);
        was[5] = Snapshot.ofWhatIsSo(x);
        // None of these is an act that was done.
        x.write(0, 0, 9, 1);
        x.tread(0, 9);
        x.hours(61);
        x.drawn(61, 1);
        Check.book(x, "tread a 11;", 1);
        Check.book(x, "hour 3;", 0);
        Check.book(x, "hour", 1);
        Check.book(x, "", 1);
        Check.yes("nothing was done", Snapshot.ofWhatIsSo(x).equals(was[5]));
        for (int left = 4; left >= 0; left--) {
            Check.is("undo", x.undo(), left);
            Check.yes("as it was behind act " + left, Snapshot.ofWhatIsSo(x).equals(was[left]));
        }
        Check.is("none", x.undo(), -1);
    }
}
