/** Promises 35 (image) and 36 (restore). */
public final class ImageTest {
    private static final String SHORE =
        "band a 2 5;band b 4 6;tide 1;tide 3;tide 5;writer v 2;writer w 9;law l 12;law m 345;lapse 4;";

    public static void main(String[] args) {
        wrongOnes();
        allThatIsSo();
        whatStays();
        twoPlaces();
        withoutSentence();
        Check.finish();
    }

    private static void wrongOnes() {
        SandLetters x = Check.made(SHORE);
        x.write(0, 0, 0, 1);
        int[] wrong = {-1, 2, Integer.MAX_VALUE, Integer.MIN_VALUE};
        for (int k : wrong) {
            Check.no("image(" + k + ")", x.image(k));
            Check.no("restore(" + k + ")", x.restore(k));
        }
        Check.no("nothing kept in 0", x.restore(0));
        Check.no("nothing kept in 1", x.restore(1));
        Check.is("a false restore leaves the acts", x.undo(), 0);
        Check.yes("image(1)", x.image(1));
        Check.no("nothing kept in 0 still", x.restore(0));
        Check.yes("restore(1)", x.restore(1));
    }

    private static void allThatIsSo() {
        SandLetters x = Check.made(SHORE);
        Check.writeAll(x, 1, 1, 0, "345");
        x.hours(2);
        Check.writeAll(x, 0, 0, 3, "9");
        Check.sentence(x, "by v");
        Check.yes("image(0)", x.image(0));
        Check.is("the acts stay", x.undo(), 4);
        Check.shore(x, "band z 1 2;lapse 9;");
        x.hours(5);
        Check.yes("restore(0)", x.restore(0));
        Check.is("nothing can be undone", x.undo(), -1);
        Check.is("bands", x.count(0), 2);
        Check.is("writers", x.count(1), 2);
        Check.is("laws", x.count(2), 2);
        Check.is("tides", x.count(3), 3);
        Check.is("lapse", x.count(4), 4);
        Check.is("hour", x.now(0), 2);
        Check.is("tide", x.now(1), 5);
        Check.is("written", x.now(5), 4);
        Check.is("strokes", x.now(6), 20);
        Check.is("washed", x.band(0, 3), 1);
        Check.is("age", x.law(0, 1), 2);
        Check.is("age", x.law(1, 1), 0);
        Check.is("wrote", x.writer(0, 1), 1);
        Check.is("hand", x.hand(0, 3), 0);
        Check.is("lawAt", x.lawAt(1, 2), 5);
        Check.rowIs(x, 0, "a ...9.");
        Check.rowIs(x, 1, "b 345...");
        Check.is("the sentence", x.said(0), 0);
        Check.is("names", Check.book(x, "v writes b 5 0;", 0), -1);
        x.tread(1, 0);
        Check.yes("once more", x.restore(0));
        Check.rowIs(x, 1, "b 345...");
    }

    private static void whatStays() {
        SandLetters x = Check.made(SHORE);
        x.image(0);
        Check.writeAll(x, 1, 1, 0, "34");
        Check.is("mend", x.mend(1), 5);
        Check.is("room", x.room(), 1);
        Check.is("row", x.row(1), 8);
        Check.book(x, "hour 7;", 0);
        Check.sentence(x, "holds z");
        Check.put(x, "hour");
        Check.yes("restore", x.restore(0));
        Check.is("tape", x.count(5), 4);
        Check.is("fault", x.fault(), 3);
        Check.is("mendAt", x.mendAt(0), 1);
        Check.is("mendAt", x.mendAt(2), 4);
        Check.is("roomOf", x.roomOf(0), 0);
        Check.is("byteAt", x.byteAt(2), '3');
        Check.is("told", x.told(2), 7);
    }

    private static void twoPlaces() {
        SandLetters x = Check.made(SHORE);
        x.image(0);
        x.hours(1);
        x.image(1);
        x.hours(1);
        Check.yes("restore(0)", x.restore(0));
        Check.is("hour 0", x.now(0), 0);
        Check.yes("restore(1)", x.restore(1));
        Check.is("hour 1", x.now(0), 1);
        Check.yes("kept anew", x.image(0));
        x.hours(1);
        Check.yes("restore(0)", x.restore(0));
        Check.is("hour 1", x.now(0), 1);
    }

    private static void withoutSentence() {
        SandLetters x = Check.made(SHORE);
        x.image(0);
        Check.sentence(x, "bare");
        x.restore(0);
        Check.is("no sentence", x.said(-1), -1);
    }
}
