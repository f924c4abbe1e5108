/** Promises 4 (shore) and 5 (fault): the SHORE's grammar and its FAULTS. */
public final class ShoreTextTest {
    public static void main(String[] args) {
        taken();
        cannotCome();
        notInRange();
        names();
        tooMany();
        firstAlongTheText();
        tooLong();
        staysOrIsNew();
        nothingIsLeftOnANewShore();
        allLines();
        Check.finish();
    }

    private static void fault(String text, int kind, int place) {
        SandLetters x = new SandLetters();
        Check.is("shore '" + text + "'", Check.shore(x, text), -1 - place);
        Check.is("fault of '" + text + "'", x.fault(), kind);
        Check.is("the tape is empty behind '" + text + "'", x.count(5), 0);
    }

    private static void good(String text, int lines) {
        SandLetters x = new SandLetters();
        Check.is("shore '" + text + "'", Check.shore(x, text), lines);
        Check.is("fault of '" + text + "'", x.fault(), 0);
        Check.is("the tape is empty behind '" + text + "'", x.count(5), 0);
    }

    private static void taken() {
        good("", 0);
        good(" \n ", 0);
        good("band a 1 2;", 1);
        good("band\na\n9 12\n;\n", 1);
        good("band abcdefg 1 2;tide 0;tide 9;writer w 1;writer v 9;law l 10;law m 999;lapse 1;", 8);
        good("law l 010;", 1);
        good("band bands 01 012;", 1);
    }

    private static void cannotCome() {
        fault("a", 1, 0);
        fault("lapse 30 ; lapses", 1, 11);
        fault("  hour 1;", 1, 2);
        fault("band", 1, 4);
        fault("band ", 1, 5);
        fault("band a 1 2", 1, 10);
        fault("band a 1 2 \n", 1, 12);
        fault("band a 1 2;;", 1, 11);
        fault(";", 1, 0);
        fault("band 1 1 2;", 1, 5);
        fault("band a b 2;", 1, 7);
        fault("band a 1 ;", 1, 9);
        fault("band a 1 2 3;", 1, 11);
        fault("banda 1 2;", 1, 0);
        fault("band a1 2;", 1, 5);
        fault("band a 1 2x;", 1, 9);
        fault("band abcdefgh 1 2;", 1, 5);
        fault("band a 0001 2;", 1, 7);
        fault("tide 1000;", 1, 5);
        fault("tide -1;", 1, 5);
        fault("Band a 1 2;", 1, 0);
        fault("tide 1,", 1, 6);
        fault("tide\t1;", 1, 4);
        fault("tide 1;\r", 1, 7);
        fault("tide 1; " + (char) 233, 1, 8);
        fault("tide 1; .", 1, 8);
        fault("tide (1);", 1, 5);
        String[] words = {"band", "tide", "writer", "law", "lapse", "writes", "tread", "hour", "or", "and", "not",
            "bare", "full", "wet", "holds", "by", "height", "signs", "washed", "number"};
        for (String word : words) {
            fault("band " + word + " 1 2;", 1, 5);
            fault("writer " + word + " 1;", 1, 7);
            fault("law " + word + " 10;", 1, 4);
        }
    }

    private static void notInRange() {
        fault("band a 0 2;", 2, 7);
        fault("band a 10 2;", 2, 7);
        fault("band a 1 1;", 2, 9);
        fault("band a 1 13;", 2, 9);
        fault("tide 10;", 2, 5);
        fault("writer w 0;", 2, 9);
        fault("writer w 10;", 2, 9);
        fault("law l 9;", 2, 6);
        fault("law l 009;", 2, 6);
        fault("law a 10;law c 01;", 2, 15);
        fault("lapse 0;", 2, 6);
        fault("lapse 31;", 2, 6);
    }

    private static void names() {
        fault("band a 1 2;band a 1 2;", 3, 16);
        fault("band a 1 2;writer a 1;", 3, 18);
        fault("band a 1 2;law a 10;", 3, 15);
        fault("writer a 1;law a 10;", 3, 15);
        fault("law a 10;band a 1 2;", 3, 14);
        fault("law a 10;law b 10;", 3, 15);
        fault("law a 10;law b 010;", 3, 15);
        fault("lapse 3;lapse 3;", 3, 8);
        fault("lapse 3;lapse lapse", 3, 8);
        good("law a 10;law b 100;law c 11;", 3);
    }

    private static void tooMany() {
        StringBuilder s = new StringBuilder();
        for (char c = 'a'; c < 'g'; c++) {
            s.append("band ").append(c).append(" 1 2;");
        }
        good(s.toString(), 6);
        fault(s + " band h 1 2;", 4, s.length() + 1);
        fault(s + "band", 4, s.length());
        s.setLength(0);
        for (int i = 0; i < 8; i++) {
            s.append("tide ").append(i).append(";");
        }
        good(s.toString(), 8);
        fault(s + "tide 1;", 4, s.length());
        s.setLength(0);
        for (char c = 'a'; c < 'e'; c++) {
            s.append("writer ").append(c).append(" 1;");
        }
        good(s.toString(), 4);
        fault(s + "writer z 1;", 4, s.length());
        s.setLength(0);
        for (char c = 'a'; c < 'g'; c++) {
            s.append("law ").append(c).append(" 2").append(c - 'a').append(";");
        }
        good(s.toString(), 6);
        fault(s + "law a 20;", 4, s.length());
    }

    private static void firstAlongTheText() {
        fault("tide 10;lapse 0;", 2, 5);
        fault("tide 1;lapse 0;Q", 2, 13);
        fault("band a 10 99;", 2, 7);
        fault("law a 10;law a 10;", 3, 13);
    }

    private static String blanks(int n) {
        return " ".repeat(n);
    }

    private static void tooLong() {
        good("tide 1;" + blanks(893), 1);
        fault("tide 1;" + blanks(894), 1, 900);
        fault("tide 1;" + blanks(933), 1, 900);
        fault("tide 10;" + blanks(930), 2, 5);
        fault("tide 1;" + blanks(892) + "tide 1;", 1, 900);
        fault("tide 1;" + blanks(892) + "tidex 1;", 1, 899);
        fault("tide 1;" + blanks(893) + "Q", 1, 900);
        good("tide 1" + blanks(893) + ";", 1);
        fault("tide 1" + blanks(894) + ";", 1, 900);
        fault("tide" + blanks(895) + "10;", 2, 899);
        fault("tide" + blanks(895) + "1;", 1, 900);
        fault("tide" + blanks(895) + "1234;", 1, 899);
        fault("tide", 1, 4);
    }

    private static void nothingIsLeftOnANewShore() {
        String text = "band a 1 3; writer w 3; law l 12; tide 1; tide 0; lapse 2;";
        SandLetters x = Check.made(text);
        x.hours(3);
        Check.writeAll(x, 0, 0, 0, "999");
        Check.is("all lines", Check.shore(x, text), 6);
        Check.is("hour", x.now(0), 0);
        Check.is("lapsed", x.now(4), 0);
        Check.is("age", x.law(0, 1), 0);
        Check.is("washed", x.band(0, 3), 0);
        Check.is("signs", x.band(0, 2), 0);
        Check.is("wrote", x.writer(0, 1), 0);
        Check.is("written", x.now(5), 0);
        Check.is("strokes", x.now(6), 0);
        Check.is("hand", x.hand(0, 0), -1);
        Check.rowIs(x, 0, "a ...");
    }

    private static void allLines() {
        StringBuilder s = new StringBuilder("lapse 9;");
        for (int i = 0; i < 8; i++) {
            s.append("tide 1;");
        }
        for (int i = 0; i < 6; i++) {
            s.append("band b").append((char) ('a' + i)).append(" 1 2;");
            s.append("law l").append((char) ('a' + i)).append(" 1").append(i).append(';');
        }
        for (int i = 0; i < 4; i++) {
            s.append("writer w").append((char) ('a' + i)).append(" 1;");
        }
        good(s.toString(), 25);
        fault(s + "tide 1;", 4, s.length());
        fault(s + "lapse 1;", 3, s.length());
        fault(s + "and", 1, s.length());
    }

    private static void staysOrIsNew() {
        SandLetters x = Check.made("band a 1 3; writer w 3; law l 12; tide 0;");
        Check.writeAll(x, 0, 0, 0, "12");
        x.hours(3);
        Check.is("a sentence", Check.sentence(x, "bare"), 1);
        Check.is("a fault", Check.shore(x, "band"), -5);
        Check.is("its kind", x.fault(), 1);
        Check.is("the shore stays", x.count(0), 1);
        Check.is("its hour", x.now(0), 3);
        Check.is("its signs", x.now(2), 2);
        Check.is("its sentence", x.said(-1), 0);
        Check.is("its acts", x.undo(), 2);
        Check.is("a book() of -1000", x.book(7), -1000);
        Check.is("leaves the fault", x.fault(), 1);
        Check.is("a new shore", Check.shore(x, "band b 2 4; lapse 5;"), 2);
        Check.is("no fault", x.fault(), 0);
        Check.is("hour 0", x.now(0), 0);
        Check.is("no signs", x.now(2), 0);
        Check.is("none written", x.now(5), 0);
        Check.is("no strokes", x.now(6), 0);
        Check.is("no sentence", x.said(-1), -1);
        Check.is("nothing to undo", x.undo(), -1);
        Check.is("no law", x.count(2), 0);
        Check.is("no writer", x.count(1), 0);
        Check.is("no tide", x.count(3), 0);
        Check.is("lapse", x.count(4), 5);
        Check.is("washed", x.band(0, 3), 0);
        Check.is("empty shore", x.shore(), 0);
        Check.is("lapse of itself", x.count(4), 3);
    }
}
