/** Promises 13 (write), 14 (tread), 15 (hours), 16 (undo), 19 (dry). */
public final class ActsTest {
    private static final String SHORE =
        "band a 2 5;band b 4 6;band c 6 2;tide 1;tide 3;tide 5;writer v 2;writer w 9;law l 12;law m 345;lapse 4;";

    public static void main(String[] args) {
        writing();
        treading();
        hoursGo();
        washing();
        undoing();
        undoBringsAllBack();
        dryness();
        Check.finish();
    }

    private static void writing() {
        SandLetters x = Check.made(SHORE);
        Check.is("write", x.write(0, 0, 0, 0), 0);
        Check.is("there is a sign", x.write(0, 0, 0, 0), 2);
        Check.is("the other's sign", x.write(1, 0, 0, 1), 2);
        Check.is("the last place", x.write(0, 0, 4, 9), 0);
        Check.is("no more in this hour", x.write(0, 0, 1, 1), 1);
        Check.is("of both the least", x.write(0, 0, 0, 1), 1);
        int[][] none = {{2, 0, 1, 1}, {-1, 0, 1, 1}, {1, 3, 1, 1}, {1, -1, 1, 1}, {1, 0, 5, 1}, {1, 0, -1, 1},
            {1, 0, 1, 10}, {1, 0, 1, -1}, {1, 2, 2, 1}, {0, 0, 5, 1}};
        for (int[] n : none) {
            Check.is("write " + n[0] + " " + n[1] + " " + n[2] + " " + n[3], x.write(n[0], n[1], n[2], n[3]), -1);
        }
        Check.is("two were written", x.now(5), 2);
        Check.rowIs(x, 0, "a 0...9");
        x.hours(1);
        Check.is("a new hour", x.write(0, 0, 1, 1), 0);
    }

    private static void treading() {
        SandLetters x = Check.made(SHORE);
        Check.is("nothing there", x.tread(0, 0), 1);
        Check.writeAll(x, 1, 0, 0, "5");
        Check.is("gone", x.tread(0, 0), 0);
        Check.is("gone already", x.tread(0, 0), 1);
        Check.is("place 5", x.tread(0, 5), -1);
        Check.is("place -1", x.tread(0, -1), -1);
        Check.is("band 3", x.tread(3, 0), -1);
        Check.is("band -1", x.tread(-1, 0), -1);
        Check.is("one can write there anew", x.write(1, 0, 0, 6), 0);
        Check.is("counted twice", x.now(5), 2);
    }

    private static void hoursGo() {
        SandLetters x = Check.made(SHORE);
        Check.is("hours(0)", x.hours(0), -1);
        Check.is("hours(-1)", x.hours(-1), -1);
        Check.is("hours(61)", x.hours(61), -1);
        Check.is("hour 0", x.now(0), 0);
        Check.is("hours(1)", x.hours(1), 1);
        Check.is("hours(60)", x.hours(60), 60);
        Check.is("hour 61", x.now(0), 61);
        for (int i = 0; i < 5; i++) {
            x.hours(60);
        }
        Check.is("the last 39", x.hours(60), 39);
        Check.is("hour 400", x.now(0), 400);
        Check.is("none goes", x.hours(60), 0);
        Check.is("hours(0) at the end", x.hours(0), -1);
    }

    private static void washing() {
        SandLetters x = Check.made("band a 3 4;band b 4 4;writer w 9;tide 3;tide 4;tide 0;law l 12;lapse 1;");
        Check.writeAll(x, 0, 0, 0, "12");
        Check.writeAll(x, 0, 1, 0, "12");
        x.hours(1);
        Check.rowIs(x, 0, "a ....");
        Check.rowIs(x, 1, "b 12..");
        Check.is("read behind the wash", x.law(0, 2), 0);
        x.hours(1);
        Check.rowIs(x, 1, "b ....");
        Check.is("lapsed, being washed first", x.law(0, 2), 1);
        SandLetters y = Check.made("band a 1 4;writer w 9;law l 12;lapse 1;");
        Check.writeAll(y, 0, 0, 0, "12");
        y.hours(60);
        Check.rowIs(y, 0, "a 12..");
        Check.is("no table, no tide", y.now(1), -1);
        Check.is("not washed", y.band(0, 3), 0);
    }

    private static void undoing() {
        SandLetters x = Check.made(SHORE);
        Check.is("nothing", x.undo(), -1);
        x.write(1, 0, 0, 1);
        x.write(1, 0, 0, 1);
        x.tread(0, 1);
        x.write(9, 9, 9, 9);
        x.hours(0);
        x.drawn(0, 1);
        Check.is("one act alone was done", x.undo(), 0);
        Check.is("nothing more", x.undo(), -1);
        Check.is("nothing written", x.now(5), 0);
        for (int i = 0; i < 9; i++) {
            x.write(1, i / 5, i % 5, i);
        }
        for (int i = 7; i >= 0; i--) {
            Check.is("undo with " + i + " left", x.undo(), i);
        }
        Check.is("a ninth is not kept", x.undo(), -1);
        Check.rowIs(x, 0, "a 0....");
        x.write(1, 0, 1, 1);
        Check.is("undo again", x.undo(), 0);
        Check.rowIs(x, 0, "a 0....");
    }

    private static void undoBringsAllBack() {
        SandLetters x = Check.made(SHORE);
        Check.writeAll(x, 1, 0, 0, "123");
        Check.is("hours", x.hours(6), 6);
        Check.is("lapsed", x.now(4), 3);
        Check.is("undo hours", x.undo(), 3);
        Check.is("hour", x.now(0), 0);
        Check.is("not lapsed", x.now(4), 0);
        Check.is("age", x.law(1, 1), 0);
        Check.is("not washed", x.band(0, 3), 0);
        Check.is("wrote", x.writer(1, 1), 3);
        Check.is("written", x.now(5), 3);
        Check.is("strokes", x.now(6), 11);
        Check.is("hand", x.hand(0, 2), 1);
        Check.rowIs(x, 0, "a 123..");
        Check.is("tread", x.tread(0, 1), 0);
        Check.is("undo tread", x.undo(), 3);
        Check.is("sign", x.sign(0, 1), 2);
        Check.is("hand", x.hand(0, 1), 1);
        Check.is("count", x.band(0, 2), 3);
        Check.is("undo write", x.undo(), 2);
        Check.is("sign", x.sign(0, 2), -1);
        Check.is("wrote", x.writer(1, 1), 2);
        Check.is("strokes", x.now(6), 6);
        for (int i = 0; i < 7; i++) {
            x.hours(60);
        }
        Check.is("none goes", x.hours(3), 0);
        Check.is("none drawn", x.drawn(3, 3), 0);
        Check.is("of the acts seven more", x.undo(), 7);
        Check.is("the last forty are undone", x.now(0), 360);
    }

    private static void dryness() {
        SandLetters x = Check.made(SHORE);
        Check.is("height 2", x.dry(0), 2);
        Check.is("height 4", x.dry(1), 3);
        Check.is("height 6", x.dry(2), -1);
        Check.is("dry(3)", x.dry(3), -1);
        Check.is("dry(-1)", x.dry(-1), -1);
        x.hours(1);
        Check.is("this hour", x.dry(0), 1);
        x.hours(2);
        Check.is("round the table", x.dry(1), 3);
        for (int i = 0; i < 6; i++) {
            x.hours(60);
        }
        x.hours(35);
        Check.is("hour 398", x.now(0), 398);
        Check.is("hour 398 washes by 5", x.dry(1), 1);
        x.hours(1);
        Check.is("hour 399 is dry, 400 is over", x.dry(0), -1);
        x.hours(1);
        Check.is("at 400", x.dry(0), -1);
        SandLetters y = Check.made("band a 1 2;");
        Check.is("no table", y.dry(0), -1);
        SandLetters z = Check.made("band a 5 2;tide 4;tide 5;tide 6;");
        Check.is("a tide of its height washes it", z.dry(0), 2);
    }
}
