/** All that the face tells without changing anything, as one text, so that "all stays" can be seen. */
final class Snapshot {
    private final StringBuilder text = new StringBuilder();
    private final SandLetters x;

    private Snapshot(SandLetters x) {
        this.x = x;
    }

    /** What is so: the SHORE, what stands, and what the SENTENCE says. */
    static String ofWhatIsSo(SandLetters x) {
        Snapshot s = new Snapshot(x);
        s.shore();
        s.standing();
        return s.text.toString();
    }

    /** What is so, the tape's length, and what other calls told last. */
    static String of(SandLetters x) {
        Snapshot s = new Snapshot(x);
        s.shore();
        s.standing();
        s.add("tape", x.count(5));
        s.add("fault", x.fault());
        s.toldLast();
        return s.text.toString();
    }

    /** What calls told last, but for fault(). */
    static String ofToldLast(SandLetters x) {
        Snapshot s = new Snapshot(x);
        s.toldLast();
        return s.text.toString();
    }

    private void add(String what, int... values) {
        text.append(what);
        for (int value : values) {
            text.append(' ').append(value);
        }
        text.append('\n');
    }

    private void shore() {
        add("count", x.count(0), x.count(1), x.count(2), x.count(3), x.count(4));
        for (int l = 0; l < x.count(2); l++) {
            add("law " + l, x.law(l, 0), x.lawAt(l, 0), x.lawAt(l, 1), x.lawAt(l, 2), x.law(l, 4));
        }
        for (int b = 0; b < x.count(0); b++) {
            add("band " + b, x.band(b, 0), x.band(b, 1));
        }
        for (int w = 0; w < x.count(1); w++) {
            add("writer " + w, x.writer(w, 0));
        }
    }

    private void standing() {
        add("now", x.now(0), x.now(1), x.now(2), x.now(3), x.now(4), x.now(5), x.now(6));
        for (int b = 0; b < x.count(0); b++) {
            add("in band " + b, x.band(b, 2), x.band(b, 3), x.band(b, 4));
            for (int place = 0; place < x.band(b, 1); place++) {
                add("at " + place, x.sign(b, place), x.hand(b, place));
            }
        }
        for (int l = 0; l < x.count(2); l++) {
            add("of law " + l, x.law(l, 1), x.law(l, 2), x.law(l, 3));
        }
        for (int w = 0; w < x.count(1); w++) {
            add("wrote " + w, x.writer(w, 1));
        }
        add("said", x.said(-1), x.said(0), x.said(1));
    }

    private void toldLast() {
        add("mendAt", x.mendAt(0), x.mendAt(1), x.mendAt(2));
        add("roomOf", x.roomOf(0), x.roomOf(1), x.roomOf(2));
        add("told", x.told(0), x.told(1), x.told(2), x.told(3));
        for (int i = 0; i <= 9; i++) {
            add("byte", x.byteAt(i));
        }
    }
}
