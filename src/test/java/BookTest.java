/** Promises 31 (book) and 32 (told), and 5 (fault) for a BOOK. */
public final class BookTest {
    private static final String SHORE =
        "band a 2 5;band b 4 6;tide 1;tide 3;tide 5;writer v 2;writer w 9;law l 12;law m 345;lapse 4;";

    public static void main(String[] args) {
        faults();
        tooManyLines();
        tooLong();
        otherLives();
        judged();
        lived();
        wrongs();
        undone();
        Check.finish();
    }

    private static void fault(String text, int kind, int place) {
        SandLetters x = Check.made(SHORE);
        Check.is("book '" + text + "'", Check.book(x, text, 1), -2 - place);
        Check.is("fault of '" + text + "'", x.fault(), kind);
        Check.is("tape behind '" + text + "'", x.count(5), 0);
        Check.is("nothing told", x.told(0), -1);
        Check.is("nothing lived", x.now(0) + x.now(5), 0);
    }

    private static void good(String text) {
        SandLetters x = Check.made(SHORE);
        Check.is("book '" + text + "'", Check.book(x, text, 0), -1);
        Check.is("fault of '" + text + "'", x.fault(), 0);
        Check.is("tape behind '" + text + "'", x.count(5), 0);
    }

    private static void faults() {
        good("");
        good("w writes a 0 0;tread a 0;hour 60;");
        fault("hour 1", 1, 6);
        fault("hour;", 1, 4);
        fault("hour 0;", 2, 5);
        fault("hour 61;", 2, 5);
        fault("w", 1, 1);
        fault("w write a 0 0;", 1, 2);
        fault("w tread a 0;", 1, 2);
        fault("w writes a 12 0;", 2, 11);
        fault("w writes a 0 10;", 2, 13);
        fault("w writes a 0;", 1, 12);
        fault("w writes 0 0;", 1, 9);
        fault("w writes hour 0 0;", 1, 9);
        fault("tread a 12;", 2, 8);
        fault("tread a;", 1, 7);
        fault("tread a 0 0;", 1, 10);
        fault("z writes a 0 0;", 3, 0);
        fault("a writes a 0 0;", 3, 0);
        fault("l writes a 0 0;", 3, 0);
        fault("w writes w 0 0;", 3, 9);
        fault("w writes zz 0 0;", 3, 9);
        fault("tread l 0;", 3, 6);
        fault("band a 1 2;", 1, 0);
        fault("writes a 1 2;", 1, 0);
        fault("1;", 1, 0);
        fault(";", 1, 0);
        fault("hour 1;w writes a 0 0;hour 99;z", 2, 27);
    }

    private static void tooManyLines() {
        String forty = "hour 1;".repeat(40);
        good(forty);
        fault(forty + "hour 1;", 4, 280);
        fault(forty + " w writes", 4, 281);
        fault(forty + "tread 0", 4, 280);
        fault(forty + "z", 3, 280);
        fault(forty + "band", 1, 280);
        fault(forty + "7", 1, 280);
    }

    private static void tooLong() {
        good("hour 1;" + " ".repeat(393));
        fault("hour 1;" + " ".repeat(394), 1, 400);
        fault("hour 1;" + " ".repeat(392) + "hour 1;", 1, 400);
        fault("hour 1;" + " ".repeat(392) + "zz", 3, 399);
    }

    private static void otherLives() {
        SandLetters x = Check.made(SHORE);
        Check.put(x, "hour 3;");
        Check.is("lives 2", x.book(2), -1000);
        Check.is("lives -1", x.book(-1), -1000);
        Check.is("the tape stays", x.count(5), 7);
        Check.is("nothing told", x.told(2), -1);
        Check.is("lives 1", x.book(1), -1);
        Check.is("the hour", x.now(0), 3);
    }

    private static void judged() {
        SandLetters x = Check.made(SHORE);
        x.hours(1);
        Check.is("told ahead of any", x.told(1), -1);
        Check.is("told ahead of any", x.told(3), -1);
        Check.is("a book", Check.book(x, "w writes b 0 1;w writes b 1 2;hour 3;hour 2;v writes a 0 5;", 0), -1);
        Check.is("not wrong", x.told(0), 0);
        Check.is("five lines", x.told(1), 5);
        Check.is("hour then", x.told(2), 6);
        Check.is("lapsed then", x.told(3), 0b11);
        Check.is("told(4)", x.told(4), -1);
        Check.is("told(-1)", x.told(-1), -1);
        Check.is("all stays", x.now(0), 1);
        Check.is("nothing written", x.now(5), 0);
        Check.is("none lapsed", x.now(4), 0);
        Check.is("one act", x.undo(), 0);
        Check.is("a fault", Check.book(x, "hour", 0), -6);
        Check.is("told stays", x.told(2), 6);
        Check.is("an empty one", Check.book(x, "", 1), -1);
        Check.is("no lines", x.told(1), 0);
        Check.is("hour", x.told(2), 0);
        Check.is("no act", x.undo(), -1);
    }

    private static void lived() {
        SandLetters x = Check.made(SHORE);
        Check.is("a book", Check.book(x, "w writes b 0 1; v writes b 1 2; tread b 0; hour 2; w writes a 4 9;", 1), -1);
        Check.rowIs(x, 0, "a ....9");
        Check.rowIs(x, 1, "b .2....");
        Check.is("hand", x.hand(1, 1), 0);
        Check.is("hour", x.now(0), 2);
        Check.is("written", x.now(5), 3);
        Check.is("wrote in this hour", x.writer(1, 1), 1);
        Check.is("of another what", x.told(1), 5);
    }

    private static void wrong(String text, int line, int why) {
        SandLetters x = Check.made(SHORE);
        Check.is("judged '" + text + "'", Check.book(x, text, 0), line);
        Check.is("why '" + text + "'", x.told(0), why);
        Check.is("lines '" + text + "'", x.told(1), line);
        Check.is("nothing done", x.now(0) + x.now(5), 0);
        Check.is("lived '" + text + "'", Check.book(x, text, 1), line);
        Check.is("why '" + text + "'", x.told(0), why);
        Check.is("hour", x.told(2), x.now(0));
        Check.is("undo", x.undo(), line > 0 ? 0 : -1);
    }

    private static void wrongs() {
        wrong("v writes a 0 1;v writes a 1 1;v writes a 2 1;hour 1;", 2, 1);
        wrong("v writes a 0 1;v writes a 1 1;v writes a 1 1;", 2, 1);
        wrong("v writes a 0 1;w writes a 0 1;", 1, 2);
        wrong("v writes a 5 1;", 0, 9);
        wrong("v writes b 5 1;v writes b 6 1;", 1, 9);
        wrong("v writes a 0 1;v writes a 1 1;v writes a 11 1;", 2, 9);
        wrong("tread a 0;", 0, 11);
        wrong("hour 1;tread a 5;", 1, 19);
        wrong("hour 60;hour 60;hour 60;hour 60;hour 60;hour 60;hour 41;", 6, 21);
        SandLetters x = Check.made(SHORE);
        Check.is("just all hours", Check.book(x, "hour 60;hour 60;hour 60;hour 60;hour 60;hour 60;hour 40;", 1), -1);
        Check.is("hour 400", x.now(0), 400);
        Check.is("none is left", Check.book(x, "w writes b 0 0;hour 1;", 1), 1);
        Check.is("why", x.told(0), 21);
        Check.is("as far as it is not wrong", x.sign(1, 0), 0);
    }

    private static void undone() {
        SandLetters x = Check.made(SHORE);
        Check.is("wrong at once", Check.book(x, "tread a 0;", 1), 0);
        Check.is("nothing to undo", x.undo(), -1);
        x.write(1, 0, 0, 7);
        Check.is("wrong later", Check.book(x, "tread a 0;hour 2;tread a 0;", 1), 2);
        Check.is("hour", x.now(0), 2);
        Check.is("undone as a whole", x.undo(), 1);
        Check.is("hour", x.now(0), 0);
        Check.is("sign", x.sign(0, 0), 7);
        Check.is("told stays", x.told(2), 2);
    }
}
