/** Promises 29 (drawn) and 30 (odds), against HOURS drawn by the calls write, tread and hours. */
public final class DrawsTest {
    private static final String SHORE =
        "band a 2 5;band b 4 6;band c 7 12;tide 1;tide 3;tide 5;writer v 2;writer w 9;writer u 3;"
        + "law l 12;law m 345;law n 99;lapse 4;";

    private static int x;

    public static void main(String[] args) {
        wrongOnes();
        byHand(SHORE, 1, 0);
        byHand(SHORE, 60, 77);
        byHand(SHORE, 40, -5);
        byHand(SHORE, 25, Integer.MAX_VALUE);
        byHand("band a 2 5;writer w 3;tide 3;", 30, 8);
        byHand("law l 10;writer w 3;tide 3;", 30, 8);
        byHand("band a 2 5;law l 10;tide 3;", 30, 8);
        aKnownDraw();
        atTheEnd();
        oddsByHand();
        handsThatWroteAhead();
        Check.finish();
    }

    private static void wrongOnes() {
        SandLetters s = Check.made(SHORE);
        Check.is("drawn(0)", s.drawn(0, 1), -1);
        Check.is("drawn(61)", s.drawn(61, 1), -1);
        Check.is("drawn(-1)", s.drawn(-1, 1), -1);
        Check.is("nothing went", s.now(0), 0);
        Check.is("odds law 3", s.odds(3, 1, 1), -1);
        Check.is("odds law -1", s.odds(-1, 1, 1), -1);
        Check.is("odds n 0", s.odds(0, 0, 1), -1);
        Check.is("odds n 31", s.odds(0, 31, 1), -1);
    }

    private static int draw(int n) {
        x = x * 1103515245 + 12345;
        return (x >>> 8) % n;
    }

    /** One HOUR as the document tells it, by the other calls. */
    private static void hourByCalls(SandLetters s) {
        for (int w = 0; w < s.count(1); w++) {
            if (s.count(0) > 0 && s.count(2) > 0) {
                int l = draw(s.count(2));
                int b = draw(s.count(0));
                int place = draw(12);
                for (int k = 0; k < s.law(l, 0); k++) {
                    s.write(w, b, place + k, s.lawAt(l, k));
                }
            }
        }
        if (s.count(0) > 0) {
            int b = draw(s.count(0));
            s.tread(b, draw(12));
        }
        s.hours(1);
    }

    private static void byHand(String shore, int n, int seed) {
        SandLetters s = Check.made(shore);
        SandLetters t = Check.made(shore);
        if (s.count(0) > 0 && s.count(1) > 0) {
            s.write(0, 0, 1, 3);
            t.write(0, 0, 1, 3);
        }
        Check.is("drawn", s.drawn(n, seed), n);
        x = seed;
        for (int i = 0; i < n; i++) {
            hourByCalls(t);
        }
        for (int what = 0; what <= 6; what++) {
            Check.is("now(" + what + ")", s.now(what), t.now(what));
        }
        for (int b = 0; b < s.count(0); b++) {
            for (int place = 0; place < 12; place++) {
                Check.is("sign " + b + " " + place, s.sign(b, place), t.sign(b, place));
                Check.is("hand " + b + " " + place, s.hand(b, place), t.hand(b, place));
            }
            Check.is("washed", s.band(b, 3), t.band(b, 3));
        }
        for (int l = 0; l < s.count(2); l++) {
            Check.is("age", s.law(l, 1), t.law(l, 1));
        }
        Check.is("it is one act", s.undo(), s.count(0) > 0 && s.count(1) > 0 ? 1 : 0);
        Check.is("undone", s.now(0), 0);
    }

    private static void aKnownDraw() {
        // From seed 0 x >>> 8 is 48, 13884438, 10945575, 14050588, 895638:
        // LAW 48 % 5, BAND 0, place 3; trodden on at place 6.
        SandLetters s = Check.made("band a 9 12;writer w 9;law l 12;law m 34;law n 56;law o 78;law p 90;");
        Check.is("drawn", s.drawn(1, 0), 1);
        Check.rowIs(s, 0, "a ...78.......");
        Check.is("written", s.now(5), 2);
        SandLetters t = Check.made("band a 9 4;writer w 9;law l 12;law m 34;law n 56;law o 78;law p 90;");
        t.drawn(1, 0);
        Check.rowIs(t, 0, "a ...7");
        SandLetters u = Check.made("band a 9 12;writer w 2;law l 12;law m 34;law n 56;law o 789;law p 90;");
        Check.is("a sign in the way", u.write(0, 0, 3, 0), 0);
        u.drawn(1, 0);
        Check.rowIs(u, 0, "a ...08.......");
        Check.is("then he can no more", u.now(5), 2);
    }

    private static void writeAndTread(SandLetters s, int w) {
        for (int i = 0; i < s.writer(w, 0); i++) {
            Check.is("he writes", s.write(w, 0, 0, 9), 0);
            Check.is("it is trodden out", s.tread(0, 0), 0);
        }
    }

    /** What a WRITER wrote ahead in this HOUR counts, and one who can write no more draws all the same. */
    private static void handsThatWroteAhead() {
        for (int seed = 0; seed < 20; seed++) {
            SandLetters s = Check.made(SHORE);
            SandLetters t = Check.made(SHORE);
            writeAndTread(s, 0);
            writeAndTread(t, 0);
            s.drawn(1, seed);
            x = seed;
            hourByCalls(t);
            for (int b = 0; b < 3; b++) {
                Check.rowIs(s, b, Check.row(t, b));
            }
            Check.is("written", s.now(5), t.now(5));
        }
        SandLetters u = Check.made("band a 9 12;writer v 2;writer w 2;law l 12;lapse 1;");
        Check.yes("some keep it", u.odds(0, 30, 1) > 0);
        writeAndTread(u, 0);
        writeAndTread(u, 1);
        Check.is("nobody can in this HOUR", u.odds(0, 30, 1), 0);
        u.drawn(1, 1);
        Check.is("so it LAPSES", u.law(0, 2), 1);
        Check.is("and none was written", u.now(5), 4);
    }

    private static void atTheEnd() {
        SandLetters s = Check.made(SHORE);
        for (int i = 0; i < 6; i++) {
            s.hours(60);
        }
        s.hours(30);
        Check.is("ten are left", s.drawn(60, 5), 10);
        Check.is("hour 400", s.now(0), 400);
        int written = s.now(5);
        Check.is("none", s.drawn(60, 5), 0);
        Check.is("nobody writes", s.now(5), written);
    }

    private static void oddsAtTheEnd() {
        SandLetters s = Check.made("band a 9 3;writer w 9;law l 12;law m 34;lapse 2;");
        Check.writeAll(s, 0, 0, 0, "12");
        for (int i = 0; i < 6; i++) {
            s.hours(60);
        }
        s.hours(38);
        s.tread(0, 0);
        s.hours(1);
        Check.is("hour 399", s.now(0), 399);
        Check.is("age 1", s.law(0, 1), 1);
        s.write(0, 0, 0, 7);
        s.write(0, 0, 2, 7);
        Check.is("it lapses in the last hour", s.odds(0, 30, 5), 0);
        s.tread(0, 0);
        s.write(0, 0, 0, 1);
        s.hours(1);
        s.tread(0, 0);
        s.write(0, 0, 0, 7);
        Check.is("no hour goes at 400", s.odds(0, 30, 5), 30);
    }

    private static void oddsByHand() {
        for (int start = 0; start < 400; start += 95) {
            SandLetters s = Check.made("band a 5 12;band b 9 5;tide 5;tide 0;writer v 9;writer w 9;law l 12;law m 345;lapse 5;");
            for (int i = 0; i < start; i += 5) {
                s.write(0, 1, 0, 1);
                s.write(0, 1, 1, 2);
                s.hours(5);
            }
            Check.is("hour " + start, s.now(0), start);
            for (int l = 0; l < 2; l++) {
                int due = 0;
                for (int i = 0; i < 30; i++) {
                    s.drawn(20, Integer.MAX_VALUE - 10 + i);
                    due += 1 - s.law(l, 2);
                    s.undo();
                }
                Check.is("odds of law " + l + " from " + start, s.odds(l, 30, Integer.MAX_VALUE - 10), due);
                Check.is("the hour stays", s.now(0), start);
            }
        }
        oddsAtTheEnd();
        SandLetters s = Check.made("law l 12;lapse 21;");
        Check.is("one seed", s.odds(0, 1, 1), 1);
        Check.is("not lapsed behind twenty", s.odds(0, 30, 1), 30);
        s.hours(1);
        Check.is("lapsed behind twenty", s.odds(0, 7, 1), 0);
    }
}
