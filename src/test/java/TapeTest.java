/** Promises 1 (a new object), 2 (feed), 3 (end), 37 (count). */
public final class TapeTest {
    public static void main(String[] args) {
        newObject();
        feeding();
        ending();
        counting();
        highestByteFirst();
        Check.finish();
    }

    private static void newObject() {
        SandLetters x = new SandLetters();
        for (int what = 0; what <= 5; what++) {
            Check.is("new count(" + what + ")", x.count(what), what == 4 ? 3 : 0);
        }
        Check.is("new fault", x.fault(), 0);
        Check.is("new hour", x.now(0), 0);
        Check.is("new undo", x.undo(), -1);
        Check.is("new said", x.said(-1), -1);
        Check.is("new said(0)", x.said(0), -1);
        Check.is("new fullest", x.fullest(), -1);
        Check.is("new room", x.room(), 0);
        Check.bandThrows(x, 0, 0);
        Check.lawThrows(x, 0, 0);
    }

    private static void feeding() {
        SandLetters x = new SandLetters();
        for (int i = 1; i <= 47; i++) {
            Check.is("feed " + i, x.feed(0x20202020, 0x0a0a0a0a, 0, -1, 0x20202020), 20 * i);
        }
        Check.is("feed beyond 940", x.feed(0, 0, 0, 0, 0), -1);
        Check.is("none came", x.count(5), 940);
        Check.yes("end(921)", x.end(921));
        Check.is("would be 941", x.feed(0, 0, 0, 0, 0), -1);
        Check.is("still 921", x.count(5), 921);
        Check.yes("end(920)", x.end(920));
        Check.is("up to 940", x.feed(0, 0, 0, 0, 0), 940);
    }

    private static void ending() {
        SandLetters x = new SandLetters();
        Check.yes("end(0) of an empty tape", x.end(0));
        Check.no("end(1) of an empty tape", x.end(1));
        Check.no("end(-1)", x.end(-1));
        x.feed(0, 0, 0, 0, 0);
        Check.no("end(21)", x.end(21));
        Check.no("end(least int)", x.end(Integer.MIN_VALUE));
        Check.is("a false end changes nothing", x.count(5), 20);
        Check.yes("end(20)", x.end(20));
        Check.yes("end(7)", x.end(7));
        Check.is("seven left", x.count(5), 7);
        Check.is("feed behind seven", x.feed(0, 0, 0, 0, 0), 27);
    }

    private static void counting() {
        SandLetters x = Check.made("band a 1 2; band b 2 3; writer w 1; law l 10; law m 11; law n 12; tide 0; tide 9; tide 3; tide 4; lapse 30;");
        Check.is("bands", x.count(0), 2);
        Check.is("writers", x.count(1), 1);
        Check.is("laws", x.count(2), 3);
        Check.is("tides", x.count(3), 4);
        Check.is("lapse", x.count(4), 30);
        Check.is("tape", x.count(5), 0);
        Check.is("count(6)", x.count(6), -1);
        Check.is("count(-1)", x.count(-1), -1);
        Check.put(x, "abc");
        Check.is("tape of three", x.count(5), 3);
    }

    private static void highestByteFirst() {
        SandLetters x = new SandLetters();
        // "tide 5; tide 6; " and four blanks
        Check.is("feed", x.feed(0x74696465, 0x20353b20, 0x74696465, 0x20363b20, 0x20202020), 20);
        Check.is("two lines", x.shore(), 2);
        Check.is("tide 5", x.now(1), 5);
        x.hours(1);
        Check.is("tide 6", x.now(1), 6);
    }
}
