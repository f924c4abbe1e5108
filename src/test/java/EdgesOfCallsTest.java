import java.util.NoSuchElementException;

/**
 * Promises 1 to 37: what each call answers for no such ones, for another what, for too few or too many and ahead of
 * any; and that behind a call that is refused all stays as it was.
 */
public final class EdgesOfCallsTest {
    private static final int LEAST = Integer.MIN_VALUE;
    private static final int GREATEST = Integer.MAX_VALUE;
    private static final int THROWS = -77;

    private interface Call {
        int on(SandLetters x);
    }

    public static void main(String[] args) {
        newObject();
        aheadOfAnyShore();
        feeding();
        ending();
        shoreWithAFault();
        newShoreLeavesWhatWasTold();
        faultOfTheLatest();
        bandsAndWhats();
        signsAndHands();
        lawsAndWhats();
        signsOfLaws();
        writersAndWhats();
        whatsOfNow();
        writesThatAreRefused();
        treadsThatAreRefused();
        hoursThatAreRefused();
        undoOfNone();
        fitsAskDryOfNoSuchOnes();
        keepOfNoSuchOnes();
        mendOfNoSuchOnes();
        mendAtOfTheLatest();
        roomNotByAll();
        roomOfTheLatest();
        bearsOfNoSuchOnes();
        fullestOfNone();
        rowOfNoSuchOnes();
        bytesOfTheLatestRow();
        drawsThatAreRefused();
        oddsThatAreRefused();
        booksThatAreRefused();
        booksThatAreJudged();
        toldOfTheLatest();
        sentenceWithAFault();
        saidOfNoSuchOnes();
        imagesThatAreRefused();
        restoresThatAreRefused();
        whatsOfCount();
        Check.finish();
    }

    /** An object in the midst of all: acts to undo, an image, a FAULT, a SENTENCE, a tape, and all told once. */
    private static SandLetters prepared() {
        SandLetters x = Check.made("band a 2 3;band b 5 4;tide 1;tide 3;writer v 2;writer w 9;law l 12;law m 345;lapse 3;");
        Check.sentence(x, "not bare");
        x.write(1, 0, 0, 1);
        x.image(0);
        x.write(1, 0, 1, 2);
        x.write(1, 1, 1, 4);
        x.hours(1);
        x.write(0, 1, 0, 3);
        x.mend(1);
        x.room();
        x.row(1);
        Check.book(x, "tread b 0;hour 2;tread b 0;", 0);
        Check.sentence(x, "by z");
        Check.put(x, "hour 1;");
        return x;
    }

    /** The call answers what is due, and all that there is stays as it was, what can be undone and restored, too. */
    private static void refused(String name, int due, Call call) {
        SandLetters x = prepared();
        SandLetters y = prepared();
        Check.is(name, call.on(x), due);
        Check.yes(name + " leaves all", Snapshot.of(x).equals(Snapshot.of(y)));
        Check.is(name + " leaves the tape", x.book(1), y.book(1));
        for (int i = 0; i < 9; i++) {
            Check.is(name + " leaves what can be undone", x.undo(), y.undo());
            Check.is(name + " leaves the hour", x.now(0), y.now(0));
            Check.is(name + " leaves the signs", x.now(2), y.now(2));
            Check.is(name + " leaves what was written", x.now(5), y.now(5));
        }
        Check.no(name + " keeps no image", x.restore(1));
        Check.yes(name + " leaves the image", x.restore(0));
        Check.is(name + " leaves the image's signs", x.now(2), 1);
    }

    /** Asked for each of these numbers, the call is refused. */
    private static void refusedFor(String name, int due, int[] numbers, java.util.function.IntFunction<Call> call) {
        for (int number : numbers) {
            refused(name + " for " + number, due, call.apply(number));
        }
    }

    private static int bandOrThrows(SandLetters x, int b, int what) {
        try {
            return x.band(b, what);
        } catch (NoSuchElementException e) {
            return THROWS;
        }
    }

    private static int lawOrThrows(SandLetters x, int l, int what) {
        try {
            return x.law(l, what);
        } catch (NoSuchElementException e) {
            return THROWS;
        }
    }

    private static int[] but(int first) {
        return new int[] {LEAST, -2, -1, first, first + 1, 100, GREATEST};
    }

    // ---- promises 1 to 5 ----

    /** "A SHORE without BANDS; an empty tape." */
    private static void newObject() {
        SandLetters x = new SandLetters();
        Check.is("bands", x.count(0), 0);
        Check.is("writers", x.count(1), 0);
        Check.is("laws", x.count(2), 0);
        Check.is("tides", x.count(3), 0);
        Check.is("lapse", x.count(4), 3);
        Check.is("tape", x.count(5), 0);
        Check.no("the tape has no byte", x.end(1));
        Check.is("an empty tape is a SHORE without LINES", x.shore(), 0);
        SandLetters y = new SandLetters();
        for (int what = 0; what <= 6; what++) {
            Check.is("now " + what, y.now(what), what == 1 ? -1 : 0);
        }
        Check.is("HOURS go, too", y.hours(60), 60);
        Check.is("by draws, too", y.drawn(60, 1), 60);
        Check.is("undone", y.undo(), 1);
    }

    /** What is told "ahead of any". */
    private static void aheadOfAnyShore() {
        SandLetters x = new SandLetters();
        Check.is("fault", x.fault(), 0);
        for (int what = 0; what <= 3; what++) {
            Check.is("mendAt", x.mendAt(what), -1);
            Check.is("told", x.told(what), -1);
            Check.is("roomOf", x.roomOf(what), -1);
            Check.is("byteAt", x.byteAt(what), -1);
        }
        Check.is("said", x.said(-1), -1);
        Check.is("said", x.said(0), -1);
        Check.is("undo", x.undo(), -1);
        Check.no("restore", x.restore(0));
        Check.no("restore", x.restore(1));
        Check.yes("an image of it", x.image(1));
        x.hours(5);
        Check.yes("restored", x.restore(1));
        Check.is("hour 0", x.now(0), 0);
        Check.is("none is undone", x.undo(), -1);
    }

    /** "NONE, and none come, if it would have more than 940". */
    private static void feeding() {
        for (int had = 0; had <= 40; had++) {
            SandLetters x = new SandLetters();
            for (int i = 0; i < 47; i++) {
                x.feed(0, 0, 0, 0, 0);
            }
            int length = 900 + had;
            Check.yes("end", x.end(length));
            boolean comes = length + 20 <= 940;
            Check.is("feed behind " + length, x.feed(1, 2, 3, 4, 5), comes ? length + 20 : -1);
            Check.is("tape behind " + length, x.count(5), comes ? length + 20 : length);
        }
        refused("feed that is refused", -1, x -> {
            for (int i = 0; i < 46; i++) {
                x.feed(0, 0, 0, 0, 0);
            }
            int answer = x.feed(-1, -1, -1, -1, -1);
            Check.is("tape", x.count(5), 927);
            x.end(7);
            return answer;
        });
    }

    /** "true; false, if it has not so many, or n is below 0". */
    private static void ending() {
        refusedFor("end", 0, new int[] {LEAST, -2, -1, 8, 9, 940, 941, GREATEST}, n -> x -> x.end(n) ? 1 : 0);
        refused("end at just so many", 1, x -> x.end(7) ? 1 : 0);
        SandLetters x = prepared();
        Check.yes("end(6)", x.end(6));
        Check.is("six", x.count(5), 6);
        Check.no("the seventh is gone", x.end(7));
        Check.is("the first six alone", x.book(0), -8);
        Check.is("no ; any more", x.fault(), 1);
        Check.yes("end(0) of none", x.end(0));
        Check.is("none", x.count(5), 0);
    }

    /** "A new SHORE: HOUR 0, no signs, AGES 0, no SENTENCE.": what mendAt() and its like tell goes by the latest answer. */
    private static void newShoreLeavesWhatWasTold() {
        String[] texts = {"", "band z 1 2;", "band a 2 3;band b 5 4;tide 1;tide 3;writer v 2;law l 12;law m 345;"};
        for (String text : texts) {
            SandLetters x = prepared();
            SandLetters y = prepared();
            x.end(0);
            Check.yes("taken", Check.shore(x, text) >= 0);
            Check.yes("'" + text + "' leaves what was told", Snapshot.ofToldLast(x).equals(Snapshot.ofToldLast(y)));
            Check.is("no FAULT", x.fault(), 0);
            Check.is("nothing to undo", x.undo(), -1);
            Check.no("no other image", x.restore(1));
            Check.yes("the image stays", x.restore(0));
            Check.is("as it was kept", x.now(2), 1);
            Check.is("its SENTENCE, too", x.said(-1), 1);
        }
    }

    /** "-1 less the place of a FAULT: it stays"; "The tape (empty then, here and below)". */
    private static void shoreWithAFault() {
        String[] texts = {"band", "band z 1 2;tide 10;", "band z 1 2;law z 10;", "lapse 1;lapse 2;", "tide 0;".repeat(9)};
        int[] answers = {-5, -17, -16, -9, -57};
        int[] kinds = {1, 2, 3, 3, 4};
        for (int i = 0; i < texts.length; i++) {
            SandLetters x = prepared();
            SandLetters y = prepared();
            x.end(0);
            Check.is("shore", Check.shore(x, texts[i]), answers[i]);
            Check.is("fault", x.fault(), kinds[i]);
            Check.is("the tape is empty", x.count(5), 0);
            Check.yes("all that is so stays", Snapshot.ofWhatIsSo(x).equals(Snapshot.ofWhatIsSo(y)));
            Check.yes("all that was told stays", Snapshot.ofToldLast(x).equals(Snapshot.ofToldLast(y)));
            Check.is("what can be undone stays", x.undo(), y.undo());
            Check.yes("the image stays", x.restore(0));
        }
        SandLetters z = prepared();
        z.end(0);
        Check.is("an empty SHORE", z.shore(), 0);
        Check.is("without bands", z.count(0), 0);
        Check.is("lapse 3", z.count(4), 3);
        Check.is("hour 0", z.now(0), 0);
        Check.is("no sentence", z.said(-1), -1);
        Check.is("none lapsed", z.now(4), 0);
        Check.yes("the image stays", z.restore(0));
        Check.is("with its bands", z.count(0), 2);
        Check.is("and its sentence", z.said(-1), 1);
    }

    /** "of the latest shore(), book() or sentence() (a book() of -1000 leaves it); 0 without one and ahead of any". */
    private static void faultOfTheLatest() {
        SandLetters x = new SandLetters();
        Check.is("ahead of any", x.fault(), 0);
        Check.shore(x, "tide 10;");
        Check.is("of shore()", x.fault(), 2);
        Check.is("-1000", x.book(2), -1000);
        Check.is("left", x.fault(), 2);
        Check.is("-1000", x.book(-1), -1000);
        Check.is("left", x.fault(), 2);
        Check.book(x, "z writes z 0 0;", 0);
        Check.is("of book()", x.fault(), 3);
        Check.book(x, "hour 1;", 0);
        Check.is("of book() without one", x.fault(), 0);
        Check.sentence(x, "!");
        Check.is("of sentence()", x.fault(), 1);
        Check.sentence(x, "wet");
        Check.is("of sentence() without one", x.fault(), 0);
        Check.sentence(x, "not ".repeat(9) + "wet");
        Check.is("of sentence()", x.fault(), 4);
        Check.book(x, "tread a 0;", 0);
        Check.is("of book()", x.fault(), 3);
        Check.shore(x, "band a 1 2;");
        Check.is("of shore() without one", x.fault(), 0);
        Check.is("a BOOK that is WRONG", Check.book(x, "tread a 0;", 0), 0);
        Check.is("has no FAULT", x.fault(), 0);
    }

    // ---- promises 6 to 12 ----

    private static void bandsAndWhats() {
        refusedFor("band", THROWS, but(2), b -> x -> bandOrThrows(x, b, 0));
        refusedFor("band's what", THROWS, but(5), what -> x -> bandOrThrows(x, 1, what));
        refused("neither", THROWS, x -> bandOrThrows(x, 2, 5));
        int[] due = {5, 4, 2, 0, 0};
        for (int what = 0; what < 5; what++) {
            Check.is("band(1, " + what + ")", prepared().band(1, what), due[what]);
        }
    }

    private static void signsAndHands() {
        refusedFor("sign's band", -1, but(2), b -> x -> x.sign(b, 0));
        refusedFor("sign's place", -1, but(3), place -> x -> x.sign(0, place));
        refusedFor("sign's place in b", -1, but(4), place -> x -> x.sign(1, place));
        refusedFor("hand's band", -1, but(2), b -> x -> x.hand(b, 0));
        refusedFor("hand's place", -1, but(3), place -> x -> x.hand(0, place));
        refusedFor("hand's place in b", -1, but(4), place -> x -> x.hand(1, place));
        refused("a place without a sign", -1, x -> x.sign(1, 2));
        refused("a place without a hand", -1, x -> x.hand(1, 2));
        refused("a sign", 3, x -> x.sign(1, 0));
        refused("a hand", 0, x -> x.hand(1, 0));
        refused("another hand", 1, x -> x.hand(1, 1));
    }

    private static void lawsAndWhats() {
        refusedFor("law", THROWS, but(2), l -> x -> lawOrThrows(x, l, 0));
        refusedFor("law's what", THROWS, but(5), what -> x -> lawOrThrows(x, 1, what));
        refused("neither", THROWS, x -> lawOrThrows(x, 2, 5));
        int[] due = {3, 1, 0, -1, 14};
        for (int what = 0; what < 5; what++) {
            Check.is("law(1, " + what + ")", prepared().law(1, what), due[what]);
        }
        Check.is("the first BAND", prepared().law(0, 3), 0);
    }

    private static void signsOfLaws() {
        refusedFor("lawAt's law", -1, but(2), l -> x -> x.lawAt(l, 0));
        refusedFor("lawAt of two", -1, but(2), k -> x -> x.lawAt(0, k));
        refusedFor("lawAt of three", -1, but(3), k -> x -> x.lawAt(1, k));
        refused("the last of two", 2, x -> x.lawAt(0, 1));
        refused("the first of three", 3, x -> x.lawAt(1, 0));
        refused("the last of three", 5, x -> x.lawAt(1, 2));
    }

    private static void writersAndWhats() {
        refusedFor("writer", -1, but(2), w -> x -> x.writer(w, 0));
        refusedFor("writer's what", -1, but(2), what -> x -> x.writer(1, what));
        refused("signs in an HOUR", 9, x -> x.writer(1, 0));
        refused("in this one none", 0, x -> x.writer(1, 1));
        refused("in this one", 1, x -> x.writer(0, 1));
    }

    private static void whatsOfNow() {
        refusedFor("now", -1, but(7), what -> x -> x.now(what));
        int[] due = {1, 3, 4, 1, 0, 4, 15};
        for (int k = 0; k < 7; k++) {
            int what = k;
            refused("now(" + what + ")", due[what], x -> x.now(what));
        }
    }

    // ---- promises 13 to 16 ----

    private static void writesThatAreRefused() {
        refusedFor("writer", -1, but(2), w -> x -> x.write(w, 1, 3, 1));
        refusedFor("band", -1, but(2), b -> x -> x.write(1, b, 2, 1));
        refusedFor("place", -1, but(3), place -> x -> x.write(1, 0, place, 1));
        refusedFor("place in b", -1, but(4), place -> x -> x.write(1, 1, place, 1));
        refusedFor("sign", -1, but(10), sign -> x -> x.write(1, 1, 3, sign));
        refused("there is a sign", 2, x -> x.write(1, 1, 0, 9));
        refused("as many as he can", 1, x -> {
            x.write(0, 1, 3, 1);
            int answer = x.write(0, 1, 2, 1);
            x.undo();
            return answer;
        });
        refused("no such place ahead of why not", -1, x -> x.write(1, 0, 3, 1));
    }

    private static void treadsThatAreRefused() {
        refusedFor("band", -1, but(2), b -> x -> x.tread(b, 0));
        refusedFor("place", -1, but(3), place -> x -> x.tread(0, place));
        refusedFor("place in b", -1, but(4), place -> x -> x.tread(1, place));
        refused("there is no sign", 1, x -> x.tread(1, 2));
        refused("nor at the last place", 1, x -> x.tread(1, 3));
    }

    private static void hoursThatAreRefused() {
        refusedFor("hours", -1, new int[] {LEAST, -60, -1, 0, 61, 62, 400, GREATEST}, n -> x -> x.hours(n));
        SandLetters x = prepared();
        Check.is("sixty", x.hours(60), 60);
        Check.is("one", x.hours(1), 1);
    }

    private static void undoOfNone() {
        SandLetters x = prepared();
        for (int left = 4; left >= 0; left--) {
            Check.is("undo", x.undo(), left);
        }
        String was = Snapshot.of(x);
        Check.is("none is", x.undo(), -1);
        Check.is("none is", x.undo(), -1);
        Check.yes("all stays", Snapshot.of(x).equals(was));
        Check.is("the tape is not undone", x.count(5), 7);
        Check.is("nor what was told", x.told(1), 2);
        Check.is("nor the SENTENCE", x.said(-1), 0);
    }

    // ---- promises 17 to 28 ----

    private static void fitsAskDryOfNoSuchOnes() {
        refusedFor("fits", -1, but(2), b -> x -> x.fits(b));
        refusedFor("ask", -1, but(2), b -> x -> x.ask(b));
        refusedFor("dry", -1, but(2), b -> x -> x.dry(b));
        refused("fits", 0b11, x -> x.fits(1));
        refused("ask", 2, x -> x.ask(1));
        refused("dry", 1, x -> x.dry(0));
        refused("never", -1, x -> x.dry(1));
        refused("no place without a sign", -1, x -> {
            x.write(1, 0, 2, 9);
            int answer = x.ask(0);
            x.undo();
            return answer;
        });
        SandLetters y = Check.made("band a 1 2;");
        Check.is("no LAW fits", y.ask(0), -1);
        Check.is("fits none", y.fits(0), 0);
    }

    private static void keepOfNoSuchOnes() {
        refusedFor("keep", -1, but(2), l -> x -> x.keep(l, 1));
        refusedFor("keep's hours", -1, new int[] {LEAST, -1, 0, 17, 18, GREATEST}, k -> x -> x.keep(0, k));
        refused("one hour", 0, x -> x.keep(0, 1));
        refused("sixteen hours", 1, x -> x.keep(0, 16));
        SandLetters y = prepared();
        y.hours(2);
        Check.is("it has LAPSED", y.law(1, 2), 1);
        Check.is("so it is not kept", y.keep(1, 1), -1);
        SandLetters z = Check.made("band a 1 2;tide 1;law l 10;law m 100;lapse 1;");
        Check.is("it can not be", z.keep(0, 1), -1);
        SandLetters u = Check.made("band a 1 2;law l 10;law m 100;lapse 1;");
        Check.is("WIDE enough", u.keep(0, 1), 1);
        Check.is("not WIDE enough", u.keep(1, 1), -1);
    }

    private static void mendOfNoSuchOnes() {
        refusedFor("mend", -1, but(2), l -> x -> x.mend(l));
        refused("nowhere", -1, x -> {
            x.write(1, 1, 3, 9);
            x.write(1, 1, 2, 9);
            int answer = x.mend(1);
            x.undo();
            x.undo();
            return answer;
        });
        refused("the same again", 5, x -> x.mend(1));
    }

    /** "By the latest mend() that was not NONE"; "NONE for another what, or ahead of any". */
    private static void mendAtOfTheLatest() {
        refusedFor("mendAt", -1, but(3), what -> x -> x.mendAt(what));
        SandLetters x = prepared();
        Check.is("band", x.mendAt(0), 1);
        Check.is("place", x.mendAt(1), 0);
        Check.is("the last sign", x.mendAt(2), 0b100);
        x.hours(1);
        x.mend(2);
        x.mend(-1);
        Check.is("band stays", x.mendAt(0), 1);
        Check.is("signs stay", x.mendAt(2), 0b100);
        Check.is("another mend", x.mend(0), 6);
        Check.is("band", x.mendAt(0), 0);
        Check.is("place", x.mendAt(1), 0);
        Check.is("both signs", x.mendAt(2), 0b11);
    }

    private static void roomNotByAll() {
        SandLetters x = Check.made("band a 1 5;law l 10;law m 100;");
        Check.is("just room", x.room(), 1);
        SandLetters y = Check.made("band a 1 4;law l 10;law m 100;");
        Check.is("one place too few", y.room(), -1);
        Check.is("ahead of any still", y.roomOf(0), -1);
        SandLetters z = Check.made("law l 10;");
        Check.is("no BANDS", z.room(), -1);
        z.hours(3);
        Check.is("all have LAPSED", z.room(), 0);
        Check.is("no LAWS", Check.made("band a 1 2;").room(), 0);
    }

    /** "NONE: it had LAPSED, no such one, or ahead of any". */
    private static void roomOfTheLatest() {
        refusedFor("roomOf", -1, but(2), l -> x -> x.roomOf(l));
        SandLetters x = prepared();
        Check.is("l in a", x.roomOf(0), 0);
        Check.is("m in b", x.roomOf(1), 1);
        x.hours(2);
        Check.is("m has LAPSED", x.law(1, 2), 1);
        Check.is("but had not", x.roomOf(1), 1);
        Check.is("room for l", x.room(), 1);
        Check.is("it had LAPSED", x.roomOf(1), -1);
        Check.is("l in a still", x.roomOf(0), 0);
        x.undo();
        Check.is("the latest room() counts", x.roomOf(1), -1);
    }

    private static void bearsOfNoSuchOnes() {
        refusedFor("bears", -1, but(2), l -> x -> x.bears(l));
        refused("all of two", 2, x -> x.bears(0));
        refused("all of three", 3, x -> x.bears(1));
    }

    /** "The BAND with most signs (of like ones the first); NONE: there are none." */
    private static void fullestOfNone() {
        Check.is("none", new SandLetters().fullest(), -1);
        Check.is("no BANDS", Check.made("law l 10;").fullest(), -1);
        Check.is("a bare one", Check.made("band a 1 2;").fullest(), 0);
        Check.is("the last of bare ones is not it", Check.made("band a 1 2;band b 1 2;").fullest(), 0);
        refused("of like ones the first", 0, x -> x.fullest());
    }

    private static void rowOfNoSuchOnes() {
        refusedFor("row", -1, but(2), b -> x -> x.row(b));
        refused("the same row again", 6, x -> x.row(1));
        Check.is("the shortest", Check.made("band a 1 2;").row(0), 4);
        Check.is("the longest", Check.made("band abcdefg 1 12;").row(0), 20);
    }

    private static void bytesOfTheLatestRow() {
        refusedFor("byteAt", -1, but(6), i -> x -> x.byteAt(i));
        refused("the first", 'b', x -> x.byteAt(0));
        refused("the blank", ' ', x -> x.byteAt(1));
        refused("a sign", '3', x -> x.byteAt(2));
        refused("no sign", '.', x -> x.byteAt(4));
        refused("the last", '.', x -> x.byteAt(5));
        SandLetters y = Check.made("band abcdefg 1 12;");
        y.row(0);
        Check.is("byte 19", y.byteAt(19), '.');
        Check.is("byte 20", y.byteAt(20), -1);
        Check.is("byte 6", y.byteAt(6), 'g');
        Check.is("byte 7", y.byteAt(7), ' ');
    }

    // ---- promises 29 to 34 ----

    private static void drawsThatAreRefused() {
        refusedFor("drawn", -1, new int[] {LEAST, -1, 0, 61, 62, GREATEST}, n -> x -> x.drawn(n, 5));
        Check.is("one", prepared().drawn(1, 5), 1);
        Check.is("sixty", prepared().drawn(60, 5), 60);
        Check.is("any seed", prepared().drawn(1, LEAST), 1);
        Check.is("any seed", prepared().drawn(1, GREATEST), 1);
    }

    private static void oddsThatAreRefused() {
        refusedFor("odds of", -1, but(2), l -> x -> x.odds(l, 1, 1));
        refusedFor("odds by", -1, new int[] {LEAST, -1, 0, 31, 32, GREATEST}, n -> x -> x.odds(0, n, 1));
        SandLetters y = prepared();
        int due = 0;
        for (int i = 0; i < 30; i++) {
            y.drawn(20, 9 + i);
            due += 1 - y.law(0, 2);
            y.undo();
        }
        refused("odds by thirty change nothing", due, x -> x.odds(0, 30, 9));
    }

    /** "-1000: another lives (the tape stays)"; "-2 less the place of a FAULT". */
    private static void booksThatAreRefused() {
        refusedFor("book", -1000, new int[] {LEAST, -1, 2, 3, GREATEST}, lives -> x -> x.book(lives));
        for (int lives = 0; lives <= 1; lives++) {
            SandLetters x = prepared();
            SandLetters y = prepared();
            x.end(0);
            Check.is("a FAULT", Check.book(x, "hour 1;tread b 0;hour 61;", lives), -24);
            Check.is("its kind", x.fault(), 2);
            Check.is("the tape is empty", x.count(5), 0);
            Check.yes("nothing is lived", Snapshot.ofWhatIsSo(x).equals(Snapshot.ofWhatIsSo(y)));
            Check.yes("told stays", Snapshot.ofToldLast(x).equals(Snapshot.ofToldLast(y)));
            Check.is("what can be undone stays", x.undo(), y.undo());
        }
        SandLetters z = prepared();
        z.end(0);
        Check.is("a FAULT at 0 is -2", Check.book(z, "!", 0), -2);
    }

    /** "it is judged, all staying as it is (lives 0), or lived as far as it is not WRONG (1): the LINE that is WRONG". */
    private static void booksThatAreJudged() {
        SandLetters x = prepared();
        SandLetters y = prepared();
        x.end(0);
        Check.is("judged", Check.book(x, "tread b 0;w writes b 0 7;hour 3;tread b 2;", 0), 3);
        Check.yes("all stays", Snapshot.ofWhatIsSo(x).equals(Snapshot.ofWhatIsSo(y)));
        Check.is("what can be undone stays", x.undo(), y.undo());
        x = prepared();
        x.end(0);
        Check.is("wrong at its first LINE", Check.book(x, "tread b 2;hour 3;", 1), 0);
        Check.yes("all stays", Snapshot.ofWhatIsSo(x).equals(Snapshot.ofWhatIsSo(y = prepared())));
        Check.is("no act", x.undo(), y.undo());
        x = prepared();
        x.end(0);
        Check.is("empty", Check.book(x, "", 1), -1);
        Check.yes("all stays", Snapshot.ofWhatIsSo(x).equals(Snapshot.ofWhatIsSo(y = prepared())));
        Check.is("no act", x.undo(), y.undo());
        x = prepared();
        x.end(0);
        Check.is("lived as far", Check.book(x, "tread b 0;w writes b 0 7;hour 3;tread b 2;", 1), 3);
        Check.is("hour 4", x.now(0), 4);
        Check.is("the sign", x.sign(1, 0), 7);
        Check.is("his hand", x.hand(1, 0), 1);
        Check.is("one act", x.undo(), 5);
    }

    private static void toldOfTheLatest() {
        refusedFor("told", -1, but(4), what -> x -> x.told(what));
        int[] due = {11, 2, 3, 2};
        for (int k = 0; k < 4; k++) {
            int what = k;
            refused("told(" + what + ")", due[what], x -> x.told(what));
        }
        whyOf("w writes b 3 1;", 0, 1);
        whyOf("v writes b 2 1;v writes b 3 1;", 1, 1);
        whyOf("w writes b 0 1;", 2, 0);
        whyOf("w writes b 4 1;", 9, 0);
        whyOf("w writes a 3 1;", 9, 0);
        whyOf("w writes a 2 1;", 0, 1);
        whyOf("tread a 2;", 11, 0);
        whyOf("tread a 3;", 19, 0);
        whyOf("tread b 3;", 11, 0);
        whyOf("tread b 4;", 19, 0);
        whyOf("hour 60;".repeat(6) + "hour 39;", 0, 7);
        whyOf("hour 60;".repeat(6) + "hour 40;", 21, 6);
    }

    private static void whyOf(String text, int why, int lines) {
        SandLetters x = prepared();
        x.end(0);
        Check.is("book '" + text + "'", Check.book(x, text, 0), why == 0 ? -1 : lines);
        Check.is("why '" + text + "'", x.told(0), why);
        Check.is("lines '" + text + "'", x.told(1), lines);
    }

    /** "-1 less the place of a FAULT: it stays". */
    private static void sentenceWithAFault() {
        String[] texts = {"", "wet or", "holds z", "not ".repeat(9) + "wet", "wet or ".repeat(21)};
        int[] answers = {-1, -7, -7, -33, -141};
        int[] kinds = {1, 1, 3, 4, 4};
        for (int i = 0; i < texts.length; i++) {
            SandLetters x = prepared();
            SandLetters y = prepared();
            x.end(0);
            Check.is("sentence", Check.sentence(x, texts[i]), answers[i]);
            Check.is("fault", x.fault(), kinds[i]);
            Check.is("the tape is empty", x.count(5), 0);
            Check.yes("all that is so stays", Snapshot.ofWhatIsSo(x).equals(Snapshot.ofWhatIsSo(y)));
            Check.yes("all that was told stays", Snapshot.ofToldLast(x).equals(Snapshot.ofToldLast(y)));
            Check.is("what can be undone stays", x.undo(), y.undo());
        }
    }

    /** "how many (k NONE), or the k-th. NONE: there is no SENTENCE, none such". */
    private static void saidOfNoSuchOnes() {
        refusedFor("said", -1, new int[] {LEAST, -3, -2, 2, 3, GREATEST}, k -> x -> x.said(k));
        refused("how many", 2, x -> x.said(-1));
        refused("the first", 0, x -> x.said(0));
        refused("the last", 1, x -> x.said(1));
        SandLetters y = Check.made("band a 1 2;");
        Check.is("no SENTENCE", y.said(-1), -1);
        Check.is("no SENTENCE", y.said(0), -1);
        Check.sentence(y, "full");
        Check.is("of none", y.said(-1), 0);
        Check.is("none such", y.said(0), -1);
    }

    // ---- promises 35 to 37 ----

    private static void imagesThatAreRefused() {
        refusedFor("image", 0, new int[] {LEAST, -1, 2, 3, GREATEST}, k -> x -> x.image(k) ? 1 : 0);
        SandLetters x = prepared();
        String was = Snapshot.of(x);
        Check.yes("image(1)", x.image(1));
        Check.yes("an image changes nothing", Snapshot.of(x).equals(was));
        Check.is("what can be undone stays", x.undo(), 4);
    }

    private static void restoresThatAreRefused() {
        refusedFor("restore", 0, new int[] {LEAST, -1, 1, 2, 3, GREATEST}, k -> x -> x.restore(k) ? 1 : 0);
        SandLetters x = prepared();
        SandLetters y = prepared();
        Check.yes("restore(0)", x.restore(0));
        Check.is("the tape stays", x.count(5), 7);
        Check.is("the FAULT stays", x.fault(), 3);
        Check.yes("what was told stays", Snapshot.ofToldLast(x).equals(Snapshot.ofToldLast(y)));
        Check.is("nothing can be undone", x.undo(), -1);
        Check.is("its signs", x.now(2), 1);
        Check.is("its hour", x.now(0), 0);
        Check.yes("it is kept still", x.restore(0));
        Check.is("the tape is as it was", x.book(1), -1);
        Check.is("one act", x.undo(), 0);
    }

    private static void whatsOfCount() {
        refusedFor("count", -1, but(6), what -> x -> x.count(what));
        int[] due = {2, 2, 2, 2, 3, 7};
        for (int k = 0; k < 6; k++) {
            int what = k;
            refused("count(" + what + ")", due[what], x -> x.count(what));
        }
    }
}
