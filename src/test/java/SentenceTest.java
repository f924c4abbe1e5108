/** Promises 33 (sentence) and 34 (said), and 5 (fault) for a SENTENCE. */
public final class SentenceTest {
    private static final String SHORE =
        "band a 2 2;band b 4 6;band c 7 5;tide 1;tide 4;writer v 2;writer w 9;law l 12;law m 345;lapse 4;";

    public static void main(String[] args) {
        faults();
        tooMany();
        tooDeep();
        tooLong();
        counted();
        plainOnes();
        joined();
        saidOf();
        staysOrIsNew();
        Check.finish();
    }

    private static void fault(String text, int kind, int place) {
        SandLetters x = Check.made(SHORE);
        Check.is("sentence '" + text + "'", Check.sentence(x, text), -1 - place);
        Check.is("fault of '" + text + "'", x.fault(), kind);
        Check.is("tape behind '" + text + "'", x.count(5), 0);
        Check.is("no sentence", x.said(-1), -1);
    }

    private static void good(String text, int ones) {
        SandLetters x = Check.made(SHORE);
        Check.is("sentence '" + text + "'", Check.sentence(x, text), ones);
        Check.is("fault of '" + text + "'", x.fault(), 0);
        Check.is("tape behind '" + text + "'", x.count(5), 0);
    }

    private static void faults() {
        fault("", 1, 0);
        fault("  ", 1, 2);
        fault("or", 1, 0);
        fault("bare or", 1, 7);
        fault("bare and", 1, 8);
        fault("bare full", 1, 5);
        fault("bare;", 1, 4);
        fault("bare)", 1, 4);
        fault("(bare", 1, 5);
        fault("(bare))", 1, 6);
        fault("()", 1, 1);
        fault("not", 1, 3);
        fault("not and", 1, 4);
        fault("a", 1, 0);
        fault("l", 1, 0);
        fault("band", 1, 0);
        fault("holds", 1, 5);
        fault("holds 1", 1, 6);
        fault("holds wet", 1, 6);
        fault("holds z", 3, 6);
        fault("holds a", 3, 6);
        fault("holds v", 3, 6);
        fault("by l", 3, 3);
        fault("by z", 3, 3);
        fault("by by", 1, 3);
        fault("height", 1, 6);
        fault("height 1", 1, 7);
        fault("height ; 1", 1, 7);
        fault("height ( 1", 1, 7);
        fault("height < a", 1, 9);
        fault("height < 1000", 1, 9);
        fault("height < = 1", 1, 9);
        fault("signs<1a", 1, 6);
        fault("holds l holds m", 1, 8);
    }

    private static void tooMany() {
        String nineteen = "bare and ".repeat(19);
        good(nineteen + "wet", 20);
        fault(nineteen + "wet or", 1, 177);
        fault(nineteen + "wet or full", 4, 178);
        fault(nineteen + "wet or (", 4, 178);
        fault(nineteen + "wet or a", 1, 178);
        fault(nineteen + "not wet", 4, 175);
    }

    private static void tooDeep() {
        good("not ".repeat(7) + "wet", 8);
        fault("not ".repeat(8) + "wet", 4, 32);
        good("(".repeat(7) + "wet" + ")".repeat(7), 8);
        fault("(".repeat(8) + "wet" + ")".repeat(8), 4, 8);
        good("(".repeat(6) + "not wet" + ")".repeat(6) + " or not(wet)", 11);
        fault("(".repeat(6) + "not not wet" + ")".repeat(6), 4, 14);
        fault("(".repeat(9), 4, 8);
        fault("(".repeat(8) + "a", 1, 8);
    }

    private static void tooLong() {
        good("bare" + " ".repeat(196), 1);
        fault("bare" + " ".repeat(197), 1, 200);
        fault("bare or" + " ".repeat(193), 1, 200);
        fault("bare or" + " ".repeat(220), 1, 200);
        fault("bare or" + " ".repeat(192) + "full", 1, 200);
        fault("bare or" + " ".repeat(192) + "fulls", 1, 199);
        fault("bare or" + " ".repeat(193) + "full", 1, 200);
    }

    private static void counted() {
        good("bare", 1);
        good("not bare", 2);
        good("(bare)", 2);
        good("not(bare or full)and wet", 5);
        good("number<0 or number>999", 2);
    }

    private static SandLetters written() {
        SandLetters x = Check.made(SHORE);
        Check.writeAll(x, 0, 0, 0, "12");
        Check.writeAll(x, 1, 1, 2, "345");
        return x;
    }

    /** bands: those of which it may be said, as bits. */
    private static void says(SandLetters x, String text, int bands) {
        Check.yes("sentence '" + text + "'", Check.sentence(x, text) > 0);
        Check.is("how many '" + text + "'", x.said(-1), Integer.bitCount(bands));
        int k = 0;
        for (int b = 0; b < x.count(0); b++) {
            if ((bands >> b & 1) != 0) {
                Check.is("the " + k + "-th of '" + text + "'", x.said(k), b);
                k++;
            }
        }
        Check.is("none behind the last of '" + text + "'", x.said(k), -1);
    }

    private static void plainOnes() {
        SandLetters x = written();
        says(x, "bare", 0b100);
        says(x, "full", 0b001);
        says(x, "wet", 0);
        says(x, "holds l", 0b001);
        says(x, "holds m", 0b010);
        says(x, "by v", 0b001);
        says(x, "by w", 0b010);
        says(x, "height<4", 0b001);
        says(x, "height=4", 0b010);
        says(x, "height>4", 0b100);
        says(x, "signs>2", 0b010);
        says(x, "signs=000", 0b100);
        says(x, "signs<3", 0b101);
        says(x, "washed>0", 0);
        says(x, "number=1", 0b010);
        says(x, "number<999", 0b111);
        x.hours(1);
        says(x, "wet", 0b011);
        x.hours(1);
        says(x, "wet", 0);
        says(x, "washed=1", 0b011);
        says(x, "bare", 0b111);
        says(x, "by v", 0);
        says(x, "holds l", 0);
        says(Check.made("band a 1 2;"), "wet", 0);
    }

    private static void joined() {
        SandLetters x = written();
        says(x, "number=0 or number=1 and number=2", 0b001);
        says(x, "number=1 and number=2 or number=0", 0b001);
        says(x, "(number=0 or number=1)and number=1", 0b010);
        says(x, "number=0 or number=1 or number=2", 0b111);
        says(x, "not number=0 and number<2", 0b010);
        says(x, "not(number=0 and number<2)", 0b110);
        says(x, "not number=0 or number=0", 0b111);
        says(x, "not not number=0", 0b001);
        says(x, "not(bare or full)or not not(bare)", 0b110);
        says(x, "number=0 or number=2 and(number=1 or number=2 and not bare)or number=1", 0b011);
        says(x, "number=2 and number>1 and number<3 or number=0 and number=0", 0b101);
    }

    private static void saidOf() {
        SandLetters x = written();
        Check.is("ahead of any", x.said(-1), -1);
        Check.sentence(x, "not bare");
        Check.is("said(-2)", x.said(-2), -1);
        Check.is("said(0)", x.said(0), 0);
        Check.is("said(1)", x.said(1), 1);
        Check.is("said(2)", x.said(2), -1);
        Check.is("said(greatest)", x.said(Integer.MAX_VALUE), -1);
        Check.is("said(least)", x.said(Integer.MIN_VALUE), -1);
        SandLetters y = Check.made("tide 1;");
        Check.is("without bands", Check.sentence(y, "bare"), 1);
        Check.is("of none", y.said(-1), 0);
        Check.is("none such", y.said(0), -1);
    }

    private static void staysOrIsNew() {
        SandLetters x = written();
        Check.sentence(x, "bare");
        Check.is("a fault", Check.sentence(x, "full or holds z"), -15);
        Check.is("its kind", x.fault(), 3);
        Check.is("the sentence stays", x.said(0), 2);
        Check.is("a new one", Check.sentence(x, "full"), 1);
        Check.is("no fault", x.fault(), 0);
        Check.is("is said", x.said(0), 0);
        x.hours(2);
        Check.is("of what is so now", x.said(-1), 0);
        x.undo();
        Check.is("and so behind undo", x.said(0), 0);
        Check.shore(x, "band z 1 2;");
        Check.is("none on a new shore", x.said(-1), -1);
    }
}
