/** Promises 17 (fits), 18 (ask), 20 (keep), 21 (mend), 22 (mendAt), 23 (room), 24 (roomOf), 25 (bears). */
public final class AskingTest {
    public static void main(String[] args) {
        fitting();
        asking();
        keeping();
        keepingByWhatStands();
        mending();
        rooms();
        roomStays();
        sixBands();
        bearing();
        Check.finish();
    }

    private static void fitting() {
        SandLetters x = Check.made("band a 1 2;band b 1 4;writer w 9;law l 12;law m 123;law n 231;lapse 1;");
        Check.is("three do not fit in two", x.fits(0), 0b001);
        Check.is("all", x.fits(1), 0b111);
        Check.writeAll(x, 0, 1, 1, "2");
        Check.is("12.., 123., .231", x.fits(1), 0b111);
        Check.writeAll(x, 0, 1, 2, "3");
        Check.is("no room for 12 but ahead", x.fits(1), 0b111);
        Check.writeAll(x, 0, 1, 0, "9");
        Check.is("231 alone", x.fits(1), 0b100);
        Check.writeAll(x, 0, 1, 3, "9");
        Check.is("none", x.fits(1), 0);
        Check.is("fits(2)", x.fits(2), -1);
        Check.is("fits(-1)", x.fits(-1), -1);
        x.hours(1);
        Check.is("lapsed ones, too", x.fits(0), 0b001);
        Check.is("without laws", Check.made("band a 1 2;").fits(0), 0);
    }

    private static void asking() {
        SandLetters x = Check.made("band a 1 2;band b 1 3;writer w 9;law l 12;law m 13;law n 42;");
        // at place 0 a 1 leaves two; at place 1 a 2 leaves two
        Check.is("of like ones the first", x.ask(0), 0);
        SandLetters y = Check.made("band a 1 2;writer w 9;law l 12;law m 13;law n 14;");
        Check.is("the second tells them apart", y.ask(0), 1);
        Check.writeAll(y, 0, 0, 1, "3");
        Check.is("the one that is left", y.ask(0), 0);
        Check.writeAll(y, 0, 0, 0, "1");
        Check.is("no place without a sign", y.ask(0), -1);
        SandLetters z = Check.made("band a 1 3;writer w 9;law l 12;");
        Check.writeAll(z, 0, 0, 1, "7");
        Check.is("no law fits", z.ask(0), -1);
        Check.is("ask(1)", z.ask(1), -1);
        Check.is("ask(-1)", z.ask(-1), -1);
        Check.rowIs(z, 0, "a .7.");
        Check.is("no law at all", Check.made("band a 1 3;").ask(0), -1);
        middleOfThree();
        signsAtTheEdges();
    }

    private static void signsAtTheEdges() {
        SandLetters x = Check.made("band a 1 2;law l 90;law m 91;law n 92;");
        Check.is("a 9 at place 0 leaves all", x.ask(0), 1);
        SandLetters y = Check.made("band a 1 3;writer w 9;law l 102;law m 103;law n 104;");
        Check.writeAll(y, 0, 0, 0, "1");
        Check.is("a 0 at place 1 leaves all", y.ask(0), 2);
    }

    private static void middleOfThree() {
        SandLetters x = Check.made("band a 1 3;writer w 9;law l 111;law m 121;law n 131;");
        Check.is("the middle", x.ask(0), 1);
        Check.writeAll(x, 0, 0, 2, "1");
        Check.is("the middle still", x.ask(0), 1);
        Check.rowIs(x, 0, "a ..1");
        Check.is("nothing is written by asking", x.now(2), 1);
    }

    private static void keeping() {
        SandLetters x = Check.made("band a 3 3;band b 2 12;tide 0;tide 2;tide 0;tide 4;writer w 9;law l 123;law m 12;lapse 2;");
        // nobody need write for one HOUR; a writing in band a stands behind HOURS 0, 1, 2
        Check.is("one hour", x.keep(0, 1), 0);
        Check.is("two hours", x.keep(0, 2), 1);
        Check.is("four hours", x.keep(0, 4), 1);
        Check.is("five hours", x.keep(0, 5), 2);
        Check.is("six hours", x.keep(0, 6), 2);
        Check.is("sixteen hours", x.keep(0, 16), 4);
        Check.is("0 hours", x.keep(0, 0), -1);
        Check.is("17 hours", x.keep(0, 17), -1);
        Check.is("keep(2, 1)", x.keep(2, 1), -1);
        Check.is("keep(-1, 1)", x.keep(-1, 1), -1);
        SandLetters y = Check.made("band a 3 3;tide 3;law l 123;law m 12;lapse 2;");
        Check.is("nobody need", y.keep(0, 1), 0);
        Check.is("it can not be", y.keep(0, 2), -1);
        SandLetters z = Check.made("band a 9 2;law l 123;law m 12;lapse 1;");
        Check.is("too wide for any", z.keep(0, 1), -1);
        Check.is("no tide: once", z.keep(1, 16), 1);
        z.hours(1);
        Check.is("lapsed", z.keep(1, 1), -1);
    }

    private static void keepingByWhatStands() {
        SandLetters x = Check.made("band a 5 3;band b 2 3;tide 0;tide 2;writer w 9;law l 123;lapse 1;");
        Check.is("once in a", x.keep(0, 16), 1);
        Check.writeAll(x, 0, 1, 0, "123");
        Check.is("it stands in b for one hour", x.keep(0, 1), 0);
        Check.is("then it is washed", x.keep(0, 2), 1);
        x.hours(1);
        Check.is("hour 1 washes b", x.keep(0, 1), 1);
        Check.writeAll(x, 0, 0, 0, "123");
        Check.is("it stands in a", x.keep(0, 16), 0);
        SandLetters y = Check.made("band a 5 3;tide 0;law l 123;lapse 3;");
        y.hours(2);
        Check.is("age 2: at once", y.keep(0, 1), 1);
        SandLetters z = Check.made("band a 1 3;band b 9 2;tide 0;law l 123;lapse 1;");
        Check.is("height 1 is above tide 0", z.keep(0, 16), 1);
        beyondTheLastHour();
    }

    private static void beyondTheLastHour() {
        SandLetters x = Check.made("band a 5 3;tide 0;tide 0;tide 0;tide 6;writer w 9;law l 123;lapse 2;");
        for (int i = 0; i < 100; i++) {
            Check.writeAll(x, 0, 0, 0, "123");
            x.hours(4);
        }
        Check.is("hour 400", x.now(0), 400);
        Check.is("not lapsed", x.law(0, 2), 0);
        Check.is("washed in hour 399", x.law(0, 1), 1);
        Check.is("hours go on likewise", x.keep(0, 16), 4);
    }

    private static void mending() {
        SandLetters x = Check.made("band a 1 4;band b 1 4;band c 1 2;writer w 9;writer v 9;law l 171;law m 17;law n 88;lapse 1;");
        Check.is("ahead of any", x.mendAt(0), -1);
        Check.is("ahead of any", x.mendAt(1), -1);
        Check.is("ahead of any", x.mendAt(2), -1);
        Check.is("all of it", x.mend(0), 5);
        Check.is("band", x.mendAt(0), 0);
        Check.is("place", x.mendAt(1), 0);
        Check.is("signs", x.mendAt(2), 7);
        Check.writeAll(x, 0, 1, 2, "7");
        Check.is("by two ones", x.mend(0), 2);
        Check.is("band", x.mendAt(0), 1);
        Check.is("place", x.mendAt(1), 1);
        Check.is("first and last", x.mendAt(2), 5);
        Check.is("by one", x.mend(1), 1);
        Check.is("signs", x.mendAt(2), 1);
        Check.writeAll(x, 0, 1, 1, "1");
        Check.is("it can be read", x.mend(1), 0);
        Check.is("place", x.mendAt(1), 1);
        Check.is("none", x.mendAt(2), 0);
        Check.is("mend(3)", x.mend(3), -1);
        Check.is("mend(-1)", x.mend(-1), -1);
        Check.is("the latest that was not NONE", x.mendAt(0), 1);
        Check.is("mendAt(3)", x.mendAt(3), -1);
        Check.is("mendAt(-1)", x.mendAt(-1), -1);
        Check.writeAll(x, 0, 0, 1, "55");
        Check.writeAll(x, 0, 1, 0, "9");
        Check.writeAll(x, 0, 1, 3, "9");
        Check.is("only c is left", x.mend(2), 14);
        Check.is("band", x.mendAt(0), 2);
        Check.is("nowhere", x.mend(0), -1);
        Check.is("band stays", x.mendAt(0), 2);
        x.hours(1);
        Check.is("a lapsed one, too", x.mend(2), 14);
    }

    private static void rooms() {
        SandLetters x = Check.made("band a 1 5;band b 1 8;band c 1 3;writer w 9;law l 123;law m 12;law n 456;lapse 2;");
        Check.is("ahead of any", x.roomOf(0), -1);
        Check.is("all in b", x.room(), 1);
        Check.is("l", x.roomOf(0), 1);
        Check.is("m", x.roomOf(1), 1);
        Check.is("n", x.roomOf(2), 1);
        Check.is("roomOf(3)", x.roomOf(3), -1);
        Check.is("roomOf(-1)", x.roomOf(-1), -1);
        Check.is("roomOf(6)", x.roomOf(6), -1);
        Check.is("roomOf(greatest)", x.roomOf(Integer.MAX_VALUE), -1);
        SandLetters y = Check.made("band a 1 5;band b 1 5;band c 1 6;law l 123;law m 12;law n 456;law o 45;");
        Check.is("two bands", y.room(), 2);
        Check.is("l", y.roomOf(0), 0);
        Check.is("m", y.roomOf(1), 0);
        Check.is("n", y.roomOf(2), 1);
        Check.is("o", y.roomOf(3), 1);
        SandLetters z = Check.made("band a 1 3;band b 1 2;band c 1 7;law l 123;law m 12;law n 456;law o 45;");
        Check.is("two bands", z.room(), 2);
        Check.is("l", z.roomOf(0), 0);
        Check.is("m", z.roomOf(1), 2);
        Check.is("n", z.roomOf(2), 2);
        Check.is("o", z.roomOf(3), 2);
    }

    private static void roomStays() {
        SandLetters x = Check.made("band a 1 5;band b 1 4;writer w 9;law l 123;law m 12;law n 456;lapse 2;");
        Check.is("two", x.room(), 2);
        Check.writeAll(x, 0, 1, 0, "456");
        Check.is("signs that stand are no matter", x.room(), 2);
        x.hours(2);
        Check.is("n alone", x.room(), 1);
        Check.is("l had lapsed", x.roomOf(0), -1);
        Check.is("n", x.roomOf(2), 0);
        Check.is("a new shore", Check.shore(x, "band a 1 2;law l 123;"), 2);
        Check.is("not by all", x.room(), -1);
        Check.is("the latest that was not NONE", x.roomOf(2), 0);
        x.hours(3);
        Check.is("all lapsed: none needed", x.room(), 0);
        Check.is("none", x.roomOf(2), -1);
    }

    private static void sixBands() {
        SandLetters x = Check.made("band a 1 3;band b 1 3;band c 1 3;band d 1 3;band e 1 3;band f 1 4;writer w 9;writer v 9;"
            + "law l 123;law m 234;law n 345;law o 456;law p 567;law q 78;lapse 1;");
        Check.is("all six", x.room(), 6);
        for (int l = 0; l < 6; l++) {
            Check.is("law " + l, x.roomOf(l), l);
        }
        for (int l = 1; l < 6; l += 2) {
            for (int k = 0; k < x.law(l, 0); k++) {
                x.write(l == 1 ? 0 : 1, l, k, x.lawAt(l, k));
            }
        }
        x.hours(1);
        Check.is("each second one has lapsed", x.now(4), 0b010101);
        Check.is("three bands", x.room(), 3);
        int[] due = {-1, 0, -1, 1, -1, 2};
        for (int l = 0; l < 6; l++) {
            Check.is("then law " + l, x.roomOf(l), due[l]);
        }
    }

    private static void bearing() {
        SandLetters x = Check.made("law a 123;law b 456;law c 126;law d 12;law e 34;");
        Check.is("126 is near", x.bears(0), 0);
        Check.is("456 has the 6 of 126", x.bears(1), 1);
        Check.is("123 is near", x.bears(2), 0);
        Check.is("12 and 34", x.bears(3), 1);
        Check.is("34 and 12", x.bears(4), 1);
        Check.is("bears(5)", x.bears(5), -1);
        Check.is("bears(-1)", x.bears(-1), -1);
        SandLetters y = Check.made("law a 123;law b 45;law c 987;");
        Check.is("all three differ", y.bears(0), 2);
        Check.is("none of as many: all", y.bears(1), 2);
        y.hours(5);
        Check.is("lapsed ones count", y.bears(0), 2);
    }
}
