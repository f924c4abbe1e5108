/** Promises 6 (band), 7 (sign), 8 (hand), 9 (law), 10 (lawAt), 11 (writer), 12 (now), 26 (fullest), 27 (row), 28 (byteAt). */
public final class StandingTest {
    private static final String SHORE =
        "band low 2 5;band mid 4 6;band top 9 12;tide 1;tide 3;tide 5;writer ann 3;writer bob 9;"
        + "law one 121;law two 45;law three 890;law four 12;lapse 2;";

    public static void main(String[] args) {
        ofBands();
        signsAndHands();
        ofLaws();
        strokes();
        noReadingAcrossBands();
        ofWriters();
        ofNow();
        nowAtTheEnd();
        fullestBand();
        rows();
        Check.finish();
    }

    private static void ofBands() {
        SandLetters x = Check.made(SHORE);
        Check.is("height", x.band(0, 0), 2);
        Check.is("height of the last", x.band(2, 0), 9);
        Check.is("wide", x.band(1, 1), 6);
        Check.is("no signs", x.band(1, 2), 0);
        Check.is("not washed", x.band(0, 3), 0);
        Check.is("no laws", x.band(0, 4), 0);
        for (int b : new int[] {-1, 3, 6, Integer.MAX_VALUE, Integer.MIN_VALUE}) {
            Check.bandThrows(x, b, 0);
        }
        for (int what : new int[] {-1, 5, Integer.MAX_VALUE, Integer.MIN_VALUE}) {
            Check.bandThrows(x, 0, what);
        }
        Check.writeAll(x, 1, 0, 1, "1212");
        Check.is("signs", x.band(0, 2), 4);
        Check.is("laws one and four", x.band(0, 4), 0b1001);
        x.tread(0, 1);
        Check.is("law four alone", x.band(0, 4), 0b1000);
        Check.is("signs less one", x.band(0, 2), 3);
        x.hours(2);
        Check.is("washed once", x.band(0, 3), 1);
        Check.is("washed off", x.band(0, 2), 0);
        x.hours(1);
        Check.is("washed though bare", x.band(0, 3), 2);
        Check.is("height 4 by tide 5", x.band(1, 3), 1);
        Check.is("never", x.band(2, 3), 0);
    }

    private static void signsAndHands() {
        SandLetters x = Check.made(SHORE);
        Check.writeAll(x, 0, 1, 5, "0");
        Check.writeAll(x, 1, 1, 4, "9");
        Check.is("sign 0", x.sign(1, 5), 0);
        Check.is("its hand", x.hand(1, 5), 0);
        Check.is("sign 9", x.sign(1, 4), 9);
        Check.is("its hand", x.hand(1, 4), 1);
        int[][] none = {{1, 3}, {1, 6}, {1, -1}, {-1, 0}, {3, 0}, {0, 5}, {Integer.MAX_VALUE, 0}, {0, Integer.MIN_VALUE}};
        for (int[] at : none) {
            Check.is("no sign at " + at[0] + " " + at[1], x.sign(at[0], at[1]), -1);
            Check.is("no hand at " + at[0] + " " + at[1], x.hand(at[0], at[1]), -1);
        }
        x.tread(1, 4);
        Check.is("trodden out", x.sign(1, 4), -1);
        Check.is("no hand", x.hand(1, 4), -1);
        x.hours(3);
        Check.is("washed off", x.sign(1, 5), -1);
        Check.is("no hand of it", x.hand(1, 5), -1);
    }

    private static void ofLaws() {
        SandLetters x = Check.made(SHORE);
        Check.is("three signs", x.law(0, 0), 3);
        Check.is("two signs", x.law(1, 0), 2);
        Check.is("strokes of 121", x.law(0, 4), 7);
        Check.is("strokes of 45", x.law(1, 4), 9);
        Check.is("strokes of 890", x.law(2, 4), 19);
        for (int l : new int[] {-1, 4, 6, Integer.MAX_VALUE}) {
            Check.lawThrows(x, l, 0);
        }
        Check.lawThrows(x, 0, -1);
        Check.lawThrows(x, 0, 5);
        Check.is("nowhere", x.law(1, 3), -1);
        Check.writeAll(x, 1, 2, 10, "45");
        Check.is("in the last", x.law(1, 3), 2);
        Check.writeAll(x, 1, 1, 0, "45");
        Check.is("in the first of two", x.law(1, 3), 1);
        x.hours(1);
        Check.is("age 0", x.law(1, 1), 0);
        Check.is("age 1", x.law(0, 1), 1);
        Check.is("has not lapsed", x.law(0, 2), 0);
        x.hours(1);
        Check.is("age 2", x.law(0, 1), 2);
        Check.is("has lapsed", x.law(0, 2), 1);
        x.hours(5);
        Check.is("age stays", x.law(0, 1), 2);
        Check.writeAll(x, 1, 2, 0, "121");
        x.hours(1);
        Check.is("lapsed for good", x.law(0, 2), 1);
        Check.is("but to be read", x.law(0, 3), 2);
        Check.is("its age stays", x.law(0, 1), 2);
        signsOfLaws(x);
        readAnew();
    }

    private static void strokes() {
        int[] due = {6, 1, 5, 5, 4, 5, 6, 3, 7, 6};
        SandLetters x = Check.made("band a 9 12;writer w 9;writer v 9;");
        int sum = 0;
        for (int sign = 0; sign <= 9; sign++) {
            Check.is("write " + sign, x.write(sign % 2, 0, sign, sign), 0);
            sum += due[sign];
            Check.is("strokes up to " + sign, x.now(6), sum);
        }
        SandLetters y = Check.made("law a 10;law b 12;law c 34;law d 56;law e 78;law f 91;");
        int[] dueOfLaws = {7, 6, 9, 11, 10, 7};
        for (int l = 0; l < 6; l++) {
            Check.is("strokes of law " + l, y.law(l, 4), dueOfLaws[l]);
        }
    }

    private static void noReadingAcrossBands() {
        SandLetters x = Check.made("band a 1 12;band b 2 12;writer w 9;writer v 9;law l 12;law m 345;lapse 1;");
        Check.writeAll(x, 0, 0, 11, "1");
        Check.writeAll(x, 1, 1, 0, "2");
        Check.writeAll(x, 0, 0, 0, "55");
        Check.is("not in a", x.band(0, 4), 0);
        Check.is("nowhere", x.now(3), 0);
        Check.is("mend", x.mend(0), 6);
        Check.is("v has no sign in a", Check.sentence(x, "by v"), 1);
        Check.is("but in b", x.said(0), 1);
        Check.is("there alone", x.said(-1), 1);
        x.hours(1);
        Check.is("lapsed", x.now(4), 3);
    }

    private static void signsOfLaws(SandLetters x) {
        int[] digits = {8, 9, 0};
        for (int k = 0; k < 3; k++) {
            Check.is("lawAt " + k, x.lawAt(2, k), digits[k]);
        }
        Check.is("lawAt(1, 1)", x.lawAt(1, 1), 5);
        Check.is("lawAt(1, 2)", x.lawAt(1, 2), -1);
        Check.is("lawAt(2, 3)", x.lawAt(2, 3), -1);
        Check.is("lawAt(2, -1)", x.lawAt(2, -1), -1);
        Check.is("lawAt(4, 0)", x.lawAt(4, 0), -1);
        Check.is("lawAt(-1, 0)", x.lawAt(-1, 0), -1);
        SandLetters y = Check.made("law a 012; law b 100;");
        Check.is("012 is 12", y.law(0, 0), 2);
        Check.is("its first", y.lawAt(0, 0), 1);
        Check.is("100", y.lawAt(1, 0), 1);
        Check.is("100", y.lawAt(1, 2), 0);
    }

    private static void readAnew() {
        SandLetters x = Check.made("band a 1 2;writer w 9;law l 10;lapse 3;");
        x.hours(2);
        Check.is("age 2", x.law(0, 1), 2);
        Check.writeAll(x, 0, 0, 0, "10");
        Check.is("age 2 still", x.law(0, 1), 2);
        x.hours(1);
        Check.is("read anew", x.law(0, 1), 0);
        x.tread(0, 0);
        x.hours(2);
        Check.is("not lapsed", x.law(0, 2), 0);
        x.hours(1);
        Check.is("lapsed", x.law(0, 2), 1);
    }

    private static void ofWriters() {
        SandLetters x = Check.made(SHORE);
        Check.is("pace", x.writer(1, 0), 9);
        Check.is("none yet", x.writer(1, 1), 0);
        Check.writeAll(x, 1, 0, 0, "123");
        Check.is("three", x.writer(1, 1), 3);
        x.tread(0, 0);
        Check.is("three still", x.writer(1, 1), 3);
        Check.is("the other none", x.writer(0, 1), 0);
        x.hours(1);
        Check.is("nobody has written", x.writer(1, 1), 0);
        Check.is("writer(1, 2)", x.writer(1, 2), -1);
        Check.is("writer(1, -1)", x.writer(1, -1), -1);
        Check.is("writer(2, 0)", x.writer(2, 0), -1);
        Check.is("writer(-1, 0)", x.writer(-1, 0), -1);
    }

    private static void ofNow() {
        SandLetters x = Check.made(SHORE);
        Check.is("tide 1", x.now(1), 1);
        Check.writeAll(x, 0, 0, 0, "12");
        Check.writeAll(x, 1, 2, 0, "458");
        Check.is("all signs", x.now(2), 5);
        Check.is("laws two and four", x.now(3), 0b1010);
        Check.is("none lapsed", x.now(4), 0);
        Check.is("written", x.now(5), 5);
        Check.is("strokes", x.now(6), 1 + 5 + 4 + 5 + 7);
        x.tread(2, 0);
        x.hours(2);
        Check.is("hour", x.now(0), 2);
        Check.is("tide 5", x.now(1), 5);
        Check.is("signs left", x.now(2), 2);
        Check.is("none to read", x.now(3), 0);
        Check.is("all but four lapsed", x.now(4), 0b0111);
        Check.is("written so far", x.now(5), 5);
        Check.is("strokes so far", x.now(6), 22);
        x.hours(1);
        Check.is("four, too", x.now(4), 0b1111);
        Check.is("tide 1 again", x.now(1), 1);
        Check.is("now(7)", x.now(7), -1);
        Check.is("now(-1)", x.now(-1), -1);
    }

    private static void nowAtTheEnd() {
        SandLetters x = Check.made("band a 3 4;tide 1;tide 2;tide 3;writer w 1;");
        for (int i = 0; i < 6; i++) {
            x.hours(60);
        }
        Check.is("forty left", x.hours(60), 40);
        Check.is("hour 400", x.now(0), 400);
        Check.is("tide 400 modulo 3", x.now(1), 2);
        Check.is("one can write still", x.write(0, 0, 0, 1), 0);
        Check.is("but once", x.write(0, 0, 1, 1), 1);
        Check.is("no hour goes", x.hours(1), 0);
    }

    private static void fullestBand() {
        SandLetters x = Check.made(SHORE);
        Check.is("the first of bare ones", x.fullest(), 0);
        Check.writeAll(x, 1, 2, 3, "11");
        Check.is("the last", x.fullest(), 2);
        Check.writeAll(x, 1, 1, 3, "11");
        Check.is("the first of like ones", x.fullest(), 1);
        Check.writeAll(x, 1, 2, 0, "1");
        Check.is("the last again", x.fullest(), 2);
    }

    private static void rows() {
        SandLetters x = Check.made(SHORE);
        Check.is("no row yet", x.byteAt(0), -1);
        Check.is("row(-1)", x.row(-1), -1);
        Check.is("row(3)", x.row(3), -1);
        Check.rowIs(x, 0, "low .....");
        Check.writeAll(x, 1, 2, 3, "0909");
        Check.writeAll(x, 1, 2, 11, "4");
        Check.rowIs(x, 2, "top ...0909....4");
        Check.is("a row that is none", x.row(7), -1);
        Check.is("leaves the latest", x.byteAt(3), ' ');
        Check.is("its last", x.byteAt(15), '4');
        Check.is("behind it", x.byteAt(16), -1);
        Check.is("byteAt(-1)", x.byteAt(-1), -1);
        Check.is("byteAt(greatest)", x.byteAt(Integer.MAX_VALUE), -1);
        x.hours(1);
        x.tread(2, 3);
        Check.is("the row as it was", x.byteAt(7), '0');
        Check.is("row of one that is shorter", x.row(0), 9);
        Check.is("no byte of the longer one", x.byteAt(9), -1);
        SandLetters y = Check.made("band abcdefz 1 12;");
        Check.is("the longest row", y.row(0), 20);
        Check.rowIs(y, 0, "abcdefz ............");
    }
}
