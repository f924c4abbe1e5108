import java.util.Arrays;
import java.util.NoSuchElementException;

/** Letters between tides; ../shared/DOC.md tells what each call answers. */
public final class SandLetters {
    public static final int NONE = -1;

    private static final int MOST_BANDS = 6;
    private static final int MOST_PLACES = 12;
    private static final int MOST_TIDES = 8;
    private static final int MOST_WRITERS = 4;
    private static final int MOST_LAWS = 6;
    private static final int MOST_LAW_SIGNS = 3;
    private static final int MOST_LAPSE = 30;
    private static final int MOST_HEIGHT = 9;
    private static final int MOST_HOURS = 60;
    private static final int ALL_HOURS = 400;

    private static final int MOST_TAPE_BYTES = 940;
    private static final int FED_BYTES = 20;
    private static final int MOST_NAME = 7;
    private static final int MOST_ROW_BYTES = MOST_NAME + 1 + MOST_PLACES;
    private static final int IMAGES = 2;

    private static final int[] STROKES = {6, 1, 5, 5, 4, 5, 6, 3, 7, 6};

    // The numbers below are the places of the words in this text.
    private static final String KEYWORDS =
        "band tide writer law lapse writes tread hour or and not bare full wet holds by height signs washed number";
    private static final int KEYWORD_COUNT = 20;
    private static final int BAND = 0;
    private static final int TIDE = 1;
    private static final int WRITER = 2;
    private static final int LAW = 3;
    private static final int LAPSE = 4;
    private static final int WRITES = 5;
    private static final int TREAD = 6;
    private static final int HOUR = 7;
    private static final int OR = 8;
    private static final int AND = 9;
    private static final int NOT = 10;
    private static final int BARE = 11;
    private static final int FULL = 12;
    private static final int WET = 13;
    private static final int HOLDS = 14;
    private static final int BY = 15;
    private static final int HEIGHT = 16;
    private static final int SIGNS = 17;
    private static final int WASHED = 18;
    private static final int NUMBER = 19;
    private static final int BRACKET = 20;

    private static final int END_OF_TEXT = 0;
    private static final int WORD = 1;
    private static final int NUMERAL = 2;
    private static final int MARK = 3;
    private static final int NO_TOKEN = 4;

    private static final int CANNOT_COME = 1;
    private static final int NOT_IN_RANGE = 2;
    private static final int WRONG_NAME = 3;
    private static final int TOO_MANY = 4;

    private final Tape tape = new Tape();
    private final Shore shore = new Shore();
    private final Shore spareShore = new Shore();
    private final Beach beach = new Beach(shore);
    private final Beach trial = new Beach(shore);
    private final Past past = new Past(shore);
    private final Book book = new Book(shore);
    private final Sentence sentence = new Sentence(shore);
    private final Sentence spareSentence = new Sentence(shore);
    private final Keeping keeping = new Keeping(shore);
    private final Mending mending = new Mending(shore);
    private final Rooms rooms = new Rooms(shore);
    private final Draws draws = new Draws(shore);
    private final int[] rowBytes = new int[MOST_ROW_BYTES];
    private int rowLength = 0;
    private final Shore[] keptShores = new Shore[IMAGES];
    private final Beach[] keptBeaches = new Beach[IMAGES];
    private final Sentence[] keptSentences = new Sentence[IMAGES];
    private final boolean[] kept = new boolean[IMAGES];

    public SandLetters() {
        for (int k = 0; k < IMAGES; k++) {
            keptShores[k] = new Shore();
            keptBeaches[k] = new Beach(shore);
            keptSentences[k] = new Sentence(shore);
        }
    }

    // ---- the tape and the texts ----

    public int feed(int a, int b, int c, int d, int e) {
        if (tape.length + FED_BYTES > MOST_TAPE_BYTES) {
            return NONE;
        }
        tape.addFour(a);
        tape.addFour(b);
        tape.addFour(c);
        tape.addFour(d);
        tape.addFour(e);
        return tape.length;
    }

    public boolean end(int n) {
        if (n < 0 || n > tape.length) {
            return false;
        }
        tape.length = n;
        return true;
    }

    public int shore() {
        spareShore.readFrom(tape);
        tape.length = 0;
        if (tape.fault != 0) {
            return -1 - tape.faultAt;
        }
        shore.copyFrom(spareShore);
        beach.clear();
        past.clear();
        sentence.clear();
        return shore.lines;
    }

    public int fault() {
        return tape.fault;
    }

    // ---- what is so ----

    public int band(int b, int what) throws NoSuchElementException {
        if (!shore.hasBand(b)) {
            throw new NoSuchElementException("no such BAND");
        }
        switch (what) {
            case 0:
                return shore.height[b];
            case 1:
                return shore.wide[b];
            case 2:
                return beach.signCount[b];
            case 3:
                return beach.washed[b];
            case 4:
                return beach.lawsReadIn(b);
            default:
                throw new NoSuchElementException("nothing such is known of a BAND");
        }
    }

    public int sign(int b, int place) {
        return shore.hasPlace(b, place) ? beach.signs[placeIndex(b, place)] : NONE;
    }

    public int hand(int b, int place) {
        return shore.hasPlace(b, place) ? beach.hands[placeIndex(b, place)] : NONE;
    }

    public int law(int l, int what) throws NoSuchElementException {
        if (!shore.hasLaw(l)) {
            throw new NoSuchElementException("no such LAW");
        }
        switch (what) {
            case 0:
                return shore.lawLength[l];
            case 1:
                return beach.ages[l];
            case 2:
                return beach.hasLapsed(l) ? 1 : 0;
            case 3:
                return beach.firstBandOf(l);
            case 4:
                return shore.strokesOf(l);
            default:
                throw new NoSuchElementException("nothing such is known of a LAW");
        }
    }

    public int lawAt(int l, int k) {
        if (!shore.hasLaw(l) || k < 0 || k >= shore.lawLength[l]) {
            return NONE;
        }
        return shore.lawSign(l, k);
    }

    public int writer(int w, int what) {
        if (!shore.hasWriter(w)) {
            return NONE;
        }
        switch (what) {
            case 0:
                return shore.pace[w];
            case 1:
                return beach.wrote[w];
            default:
                return NONE;
        }
    }

    public int now(int what) {
        switch (what) {
            case 0:
                return beach.hour;
            case 1:
                return shore.tideOf(beach.hour);
            case 2:
                return beach.allSigns();
            case 3:
                return beach.lawsRead();
            case 4:
                return beach.lapsed;
            case 5:
                return beach.written;
            case 6:
                return beach.writtenStrokes;
            default:
                return NONE;
        }
    }

    public int count(int what) {
        switch (what) {
            case 0:
                return shore.bands;
            case 1:
                return shore.writers;
            case 2:
                return shore.laws;
            case 3:
                return shore.tides;
            case 4:
                return shore.lapse;
            case 5:
                return tape.length;
            default:
                return NONE;
        }
    }

    // ---- acts ----

    public int write(int w, int b, int place, int sign) {
        if (!shore.hasWriter(w) || !shore.hasPlace(b, place) || sign < 0 || sign > 9) {
            return NONE;
        }
        int why = beach.whyNotWrite(w, b, place);
        if (why == 0) {
            past.keepCopy(beach);
            beach.putSign(w, b, place, sign);
        }
        return why;
    }

    public int tread(int b, int place) {
        if (!shore.hasPlace(b, place)) {
            return NONE;
        }
        int why = beach.whyNotTread(b, place);
        if (why == 0) {
            past.keepCopy(beach);
            beach.removeSign(b, place);
        }
        return why;
    }

    public int hours(int n) {
        if (n < 1 || n > MOST_HOURS) {
            return NONE;
        }
        int going = Math.min(n, beach.hoursLeft());
        if (going > 0) {
            past.keepCopy(beach);
            beach.passHours(going);
        }
        return going;
    }

    public int undo() {
        return past.bringBack(beach) ? past.size : NONE;
    }

    public int drawn(int n, int seed) {
        if (n < 1 || n > MOST_HOURS) {
            return NONE;
        }
        int going = Math.min(n, beach.hoursLeft());
        if (going > 0) {
            past.keepCopy(beach);
            draws.start(seed);
            for (int i = 0; i < going; i++) {
                draws.passHourIn(beach);
            }
        }
        return going;
    }

    // ---- what may be asked ----

    public int fits(int b) {
        return shore.hasBand(b) ? shore.lawsFitting(beach.signs, placeIndex(b, 0), shore.wide[b]) : NONE;
    }

    public int ask(int b) {
        return shore.hasBand(b) ? beach.bestPlaceToAsk(b) : NONE;
    }

    public int dry(int b) {
        return shore.hasBand(b) ? beach.hoursTillWashed(b) : NONE;
    }

    public int keep(int l, int k) {
        if (!shore.hasLaw(l) || k < 1 || k > Keeping.MOST_KEPT_HOURS || beach.hasLapsed(l)) {
            return NONE;
        }
        return keeping.fewestTimes(beach, l, k);
    }

    public int mend(int l) {
        return shore.hasLaw(l) ? mending.fewestStrokes(beach, l) : NONE;
    }

    public int mendAt(int what) {
        switch (what) {
            case 0:
                return mending.band;
            case 1:
                return mending.place;
            case 2:
                return mending.missing;
            default:
                return NONE;
        }
    }

    public int room() {
        return rooms.fewestBands(beach);
    }

    public int roomOf(int l) {
        return l < 0 || l >= MOST_LAWS ? NONE : rooms.latest[l];
    }

    public int bears(int l) {
        return shore.hasLaw(l) ? shore.signsToLose(l) : NONE;
    }

    public int fullest() {
        int best = NONE;
        for (int b = 0; b < shore.bands; b++) {
            if (best == NONE || beach.signCount[b] > beach.signCount[best]) {
                best = b;
            }
        }
        return best;
    }

    public int row(int b) {
        if (!shore.hasBand(b)) {
            return NONE;
        }
        rowLength = shore.putName(shore.bandName[b], rowBytes);
        addRowByte(' ');
        for (int place = 0; place < shore.wide[b]; place++) {
            int sign = beach.signs[placeIndex(b, place)];
            addRowByte(sign == NONE ? '.' : '0' + sign);
        }
        return rowLength;
    }

    public int byteAt(int i) {
        return i < 0 || i >= rowLength ? NONE : rowBytes[i];
    }

    public int odds(int l, int n, int seed) {
        if (!shore.hasLaw(l) || n < 1 || n > Draws.MOST_SEEDS) {
            return NONE;
        }
        int standing = 0;
        for (int i = 0; i < n; i++) {
            trial.copyFrom(beach);
            draws.start(seed + i);
            for (int h = 0; h < Draws.ODDS_HOURS && trial.hoursLeft() > 0 && !trial.hasLapsed(l); h++) {
                draws.passHourIn(trial);
            }
            if (!trial.hasLapsed(l)) {
                standing++;
            }
        }
        return standing;
    }

    // ---- the book and the sentence ----

    public int book(int lives) {
        if (lives != 0 && lives != 1) {
            return -1000;
        }
        book.readFrom(tape);
        tape.length = 0;
        if (tape.fault != 0) {
            return -2 - tape.faultAt;
        }
        trial.copyFrom(beach);
        int wrong = book.liveIn(trial);
        if (lives == 1 && book.lived > 0) {
            past.keepCopy(beach);
            beach.copyFrom(trial);
        }
        return wrong;
    }

    public int told(int what) {
        switch (what) {
            case 0:
                return book.why;
            case 1:
                return book.lived;
            case 2:
                return book.hourThen;
            case 3:
                return book.lapsedThen;
            default:
                return NONE;
        }
    }

    public int sentence() {
        spareSentence.readFrom(tape);
        tape.length = 0;
        if (tape.fault != 0) {
            return -1 - tape.faultAt;
        }
        sentence.copyFrom(spareSentence);
        return sentence.ones;
    }

    public int said(int k) {
        if (sentence.ones == 0) {
            return NONE;
        }
        int bands = sentence.bandsIn(beach);
        if (k == NONE) {
            return Integer.bitCount(bands);
        }
        int ahead = 0;
        for (int b = 0; b < shore.bands; b++) {
            if ((bands >> b & 1) != 0) {
                if (ahead == k) {
                    return b;
                }
                ahead++;
            }
        }
        return NONE;
    }

    // ---- images ----

    public boolean image(int k) {
        if (k < 0 || k >= IMAGES) {
            return false;
        }
        keptShores[k].copyFrom(shore);
        keptBeaches[k].copyFrom(beach);
        keptSentences[k].copyFrom(sentence);
        kept[k] = true;
        return true;
    }

    public boolean restore(int k) {
        if (k < 0 || k >= IMAGES || !kept[k]) {
            return false;
        }
        shore.copyFrom(keptShores[k]);
        beach.copyFrom(keptBeaches[k]);
        sentence.copyFrom(keptSentences[k]);
        past.clear();
        return true;
    }

    private void addRowByte(int value) {
        if (rowLength < rowBytes.length) {
            rowBytes[rowLength] = value;
            rowLength++;
        }
    }

    private static int placeIndex(int b, int place) {
        return b * MOST_PLACES + place;
    }

    /** The bytes that were fed, and a reader that goes along them TOKEN by TOKEN till the first FAULT. */
    private static final class Tape {
        private static final int MOST_DIGITS = 3;
        // A WORD has seven letters at most, so five bits a letter keep it whole in a long.
        private static final int LETTER_SPAN = 32;

        final int[] bytes = new int[MOST_TAPE_BYTES];
        final long[] keywords = new long[KEYWORD_COUNT];
        int length = 0;
        int most = 0;
        int next = 0;
        int kind = END_OF_TEXT;
        int place = 0;
        int value = 0;
        long name = 0;
        int keyword = NONE;
        int fault = 0;
        int faultAt = 0;

        Tape() {
            int k = 0;
            for (int i = 0; i < KEYWORDS.length(); i++) {
                int letter = KEYWORDS.charAt(i);
                if (letter == ' ') {
                    k++;
                } else if (k < KEYWORD_COUNT) {
                    keywords[k] = keywords[k] * LETTER_SPAN + (letter - 'a' + 1);
                }
            }
        }

        void addFour(int number) {
            for (int shift = 24; shift >= 0; shift -= 8) {
                if (length < MOST_TAPE_BYTES) {
                    bytes[length] = number >>> shift & 255;
                    length++;
                }
            }
        }

        void startReading(int mostBytes) {
            most = mostBytes;
            next = 0;
            fault = 0;
            faultAt = 0;
            advance();
        }

        void fail(int faultKind) {
            if (fault == 0) {
                fault = faultKind;
                faultAt = place;
            }
        }

        void advance() {
            skipBlanks();
            keyword = NONE;
            if (next >= most && length > most) {
                place = most;
                kind = NO_TOKEN;
            } else if (next >= length) {
                place = length;
                kind = END_OF_TEXT;
            } else {
                place = next;
                readRun();
                if (next == place) {
                    readMark();
                } else if (kind == WORD) {
                    findKeyword();
                }
            }
        }

        private void skipBlanks() {
            while (next < length && (bytes[next] == ' ' || bytes[next] == '\n')) {
                next++;
            }
        }

        private void readRun() {
            int letters = 0;
            int digits = 0;
            name = 0;
            value = 0;
            for (; next < length; next++) {
                int sign = bytes[next];
                if (sign >= 'a' && sign <= 'z') {
                    letters++;
                    name = name * LETTER_SPAN + (sign - 'a' + 1);
                } else if (sign >= '0' && sign <= '9') {
                    digits++;
                    value = value * 10 + sign - '0';
                } else {
                    break;
                }
            }
            if (digits == 0 && letters <= MOST_NAME) {
                kind = WORD;
            } else {
                kind = letters == 0 && digits <= MOST_DIGITS ? NUMERAL : NO_TOKEN;
            }
        }

        private void readMark() {
            value = bytes[next];
            next++;
            boolean known = value == ';' || value == '<' || value == '=' || value == '>' || value == '(' || value == ')';
            kind = known ? MARK : NO_TOKEN;
        }

        private void findKeyword() {
            for (int k = 0; k < KEYWORD_COUNT; k++) {
                if (keywords[k] == name) {
                    keyword = k;
                }
            }
        }

        boolean atMark(int mark) {
            return kind == MARK && value == mark;
        }

        boolean atName() {
            return kind == WORD && keyword == NONE;
        }

        // Once a FAULT is found the reader stands still: nothing behind it counts.
        void takeMark(int mark) {
            if (fault == 0 && atMark(mark)) {
                advance();
            } else {
                fail(CANNOT_COME);
            }
        }

        void takeKeyword(int wanted) {
            if (fault == 0 && keyword == wanted) {
                advance();
            } else {
                fail(CANNOT_COME);
            }
        }

        int takeNumber(int least, int greatest) {
            int taken = 0;
            if (fault != 0 || kind != NUMERAL) {
                fail(CANNOT_COME);
            } else if (value < least || value > greatest) {
                fail(NOT_IN_RANGE);
            } else {
                taken = value;
                advance();
            }
            return taken;
        }

        /** Which of the first size names stands here; NONE behind a FAULT. */
        int takeNameOf(long[] names, int size) {
            if (fault != 0 || !atName()) {
                fail(CANNOT_COME);
                return NONE;
            }
            int found = Shore.indexOf(names, size, name);
            if (found == NONE) {
                fail(WRONG_NAME);
            } else {
                advance();
            }
            return found;
        }
    }

    /** What a SHORE tells and no HOUR changes. */
    private static final class Shore {
        private static final int MOST_TEXT = 900;
        private static final int MOST_LINES = MOST_BANDS + MOST_TIDES + MOST_WRITERS + MOST_LAWS + 1;
        private static final int UNTOLD_LAPSE = 3;

        int bands = 0;
        final long[] bandName = new long[MOST_BANDS];
        final int[] height = new int[MOST_BANDS];
        final int[] wide = new int[MOST_BANDS];
        int tides = 0;
        final int[] tide = new int[MOST_TIDES];
        int writers = 0;
        final long[] writerName = new long[MOST_WRITERS];
        final int[] pace = new int[MOST_WRITERS];
        int laws = 0;
        final long[] lawName = new long[MOST_LAWS];
        final int[] lawNumber = new int[MOST_LAWS];
        final int[] lawLength = new int[MOST_LAWS];
        final int[] lawSigns = new int[MOST_LAWS * MOST_LAW_SIGNS];
        int lapse = UNTOLD_LAPSE;
        boolean lapseTold = false;
        int lines = 0;

        void copyFrom(Shore other) {
            bands = other.bands;
            tides = other.tides;
            writers = other.writers;
            laws = other.laws;
            lapse = other.lapse;
            lapseTold = other.lapseTold;
            lines = other.lines;
            System.arraycopy(other.bandName, 0, bandName, 0, MOST_BANDS);
            System.arraycopy(other.height, 0, height, 0, MOST_BANDS);
            System.arraycopy(other.wide, 0, wide, 0, MOST_BANDS);
            System.arraycopy(other.tide, 0, tide, 0, MOST_TIDES);
            System.arraycopy(other.writerName, 0, writerName, 0, MOST_WRITERS);
            System.arraycopy(other.pace, 0, pace, 0, MOST_WRITERS);
            System.arraycopy(other.lawName, 0, lawName, 0, MOST_LAWS);
            System.arraycopy(other.lawNumber, 0, lawNumber, 0, MOST_LAWS);
            System.arraycopy(other.lawLength, 0, lawLength, 0, MOST_LAWS);
            System.arraycopy(other.lawSigns, 0, lawSigns, 0, lawSigns.length);
        }

        void readFrom(Tape tape) {
            bands = 0;
            tides = 0;
            writers = 0;
            laws = 0;
            lapse = UNTOLD_LAPSE;
            lapseTold = false;
            lines = 0;
            tape.startReading(MOST_TEXT);
            for (int i = 0; i <= MOST_LINES && tape.fault == 0 && tape.kind != END_OF_TEXT; i++) {
                readLine(tape);
                tape.takeMark(';');
                lines++;
            }
        }

        private void readLine(Tape tape) {
            switch (tape.keyword) {
                case BAND:
                    readBand(tape);
                    break;
                case TIDE:
                    readTide(tape);
                    break;
                case WRITER:
                    readWriter(tape);
                    break;
                case LAW:
                    readLaw(tape);
                    break;
                case LAPSE:
                    readLapse(tape);
                    break;
                default:
                    tape.fail(CANNOT_COME);
            }
        }

        private void readBand(Tape tape) {
            if (bands >= MOST_BANDS) {
                tape.fail(TOO_MANY);
                return;
            }
            tape.advance();
            long name = takeNewName(tape);
            int told = tape.takeNumber(1, MOST_HEIGHT);
            int places = tape.takeNumber(2, MOST_PLACES);
            if (tape.fault == 0) {
                bandName[bands] = name;
                height[bands] = told;
                wide[bands] = places;
                bands++;
            }
        }

        private void readTide(Tape tape) {
            if (tides >= MOST_TIDES) {
                tape.fail(TOO_MANY);
                return;
            }
            tape.advance();
            int told = tape.takeNumber(0, 9);
            if (tape.fault == 0) {
                tide[tides] = told;
                tides++;
            }
        }

        private void readWriter(Tape tape) {
            if (writers >= MOST_WRITERS) {
                tape.fail(TOO_MANY);
                return;
            }
            tape.advance();
            long name = takeNewName(tape);
            int told = tape.takeNumber(1, 9);
            if (tape.fault == 0) {
                writerName[writers] = name;
                pace[writers] = told;
                writers++;
            }
        }

        private void readLaw(Tape tape) {
            if (laws >= MOST_LAWS) {
                tape.fail(TOO_MANY);
                return;
            }
            tape.advance();
            long name = takeNewName(tape);
            if (tape.fault == 0 && tape.kind == NUMERAL && isLawNumber(tape.value)) {
                tape.fail(WRONG_NAME);
            }
            int told = tape.takeNumber(10, 999);
            if (tape.fault == 0) {
                lawName[laws] = name;
                setLawSigns(laws, told);
                laws++;
            }
        }

        private boolean isLawNumber(int number) {
            for (int l = 0; l < laws; l++) {
                if (lawNumber[l] == number) {
                    return true;
                }
            }
            return false;
        }

        private void setLawSigns(int l, int number) {
            lawNumber[l] = number;
            lawLength[l] = number >= 100 ? 3 : 2;
            int rest = number;
            for (int k = lawLength[l] - 1; k >= 0; k--) {
                lawSigns[l * MOST_LAW_SIGNS + k] = rest % 10;
                rest = rest / 10;
            }
        }

        private void readLapse(Tape tape) {
            if (lapseTold) {
                tape.fail(WRONG_NAME);
                return;
            }
            tape.advance();
            int told = tape.takeNumber(1, MOST_LAPSE);
            if (tape.fault == 0) {
                lapse = told;
                lapseTold = true;
            }
        }

        private long takeNewName(Tape tape) {
            long name = tape.name;
            if (!tape.atName()) {
                tape.fail(CANNOT_COME);
            } else if (isTold(name)) {
                tape.fail(WRONG_NAME);
            } else {
                tape.advance();
            }
            return name;
        }

        private boolean isTold(long name) {
            return indexOf(bandName, bands, name) != NONE
                || indexOf(writerName, writers, name) != NONE
                || indexOf(lawName, laws, name) != NONE;
        }

        static int indexOf(long[] names, int size, long name) {
            for (int i = 0; i < size && i < names.length; i++) {
                if (names[i] == name) {
                    return i;
                }
            }
            return NONE;
        }

        /** Writes a NAME's letters to the front of row: how many. */
        int putName(long name, int[] row) {
            int letters = 0;
            for (int shift = 5 * (MOST_NAME - 1); shift >= 0; shift -= 5) {
                int letter = (int) (name >>> shift & 31);
                if (letter != 0 && letters < row.length) {
                    row[letters] = 'a' + letter - 1;
                    letters++;
                }
            }
            return letters;
        }

        boolean hasBand(int b) {
            return b >= 0 && b < bands;
        }

        boolean hasPlace(int b, int place) {
            return hasBand(b) && place >= 0 && place < wide[b];
        }

        boolean hasWriter(int w) {
            return w >= 0 && w < writers;
        }

        boolean hasLaw(int l) {
            return l >= 0 && l < laws;
        }

        int lawSign(int l, int k) {
            return lawSigns[l * MOST_LAW_SIGNS + k];
        }

        int tideOf(int hour) {
            return tides > 0 ? tide[hour % tides] : NONE;
        }

        int strokesOf(int l) {
            int sum = 0;
            for (int k = 0; k < lawLength[l]; k++) {
                sum += STROKES[lawSign(l, k)];
            }
            return sum;
        }

        /** LAWS that a row of places can have held, as bits; the row has its places from index from on. */
        int lawsFitting(int[] signs, int from, int places) {
            int fitting = 0;
            for (int l = 0; l < laws; l++) {
                if (canHaveHeld(signs, from, places, l)) {
                    fitting |= 1 << l;
                }
            }
            return fitting;
        }

        private boolean canHaveHeld(int[] signs, int from, int places, int l) {
            for (int start = from; start + lawLength[l] <= from + places; start++) {
                if (nothingAgainst(signs, start, l)) {
                    return true;
                }
            }
            return false;
        }

        private boolean nothingAgainst(int[] signs, int start, int l) {
            for (int k = 0; k < lawLength[l]; k++) {
                int sign = signs[start + k];
                if (sign != NONE && sign != lawSign(l, k)) {
                    return false;
                }
            }
            return true;
        }

        /** The nearest other LAW fits as soon as just those signs are lost in which it differs. */
        int signsToLose(int l) {
            int nearest = lawLength[l] + 1;
            for (int other = 0; other < laws; other++) {
                if (other != l && lawLength[other] == lawLength[l]) {
                    nearest = Math.min(nearest, differences(l, other));
                }
            }
            return nearest - 1;
        }

        private int differences(int l, int other) {
            int differing = 0;
            for (int k = 0; k < lawLength[l]; k++) {
                if (lawSign(l, k) != lawSign(other, k)) {
                    differing++;
                }
            }
            return differing;
        }
    }

    /** What the acts and HOURS change: all that undo() and restore() bring back. */
    private static final class Beach {
        private static final int ALL_PLACES = MOST_BANDS * MOST_PLACES;

        final Shore shore;
        final int[] signs = new int[ALL_PLACES];
        final int[] hands = new int[ALL_PLACES];
        final int[] signCount = new int[MOST_BANDS];
        final int[] washed = new int[MOST_BANDS];
        final int[] ages = new int[MOST_LAWS];
        final int[] wrote = new int[MOST_WRITERS];
        final int[] askRow = new int[MOST_PLACES];
        int lapsed = 0;
        int hour = 0;
        int written = 0;
        int writtenStrokes = 0;

        Beach(Shore shore) {
            this.shore = shore;
            Arrays.fill(signs, NONE);
            Arrays.fill(hands, NONE);
        }

        void clear() {
            Arrays.fill(signs, NONE);
            Arrays.fill(hands, NONE);
            Arrays.fill(signCount, 0);
            Arrays.fill(washed, 0);
            Arrays.fill(ages, 0);
            Arrays.fill(wrote, 0);
            lapsed = 0;
            hour = 0;
            written = 0;
            writtenStrokes = 0;
        }

        void copyFrom(Beach other) {
            System.arraycopy(other.signs, 0, signs, 0, ALL_PLACES);
            System.arraycopy(other.hands, 0, hands, 0, ALL_PLACES);
            System.arraycopy(other.signCount, 0, signCount, 0, MOST_BANDS);
            System.arraycopy(other.washed, 0, washed, 0, MOST_BANDS);
            System.arraycopy(other.ages, 0, ages, 0, MOST_LAWS);
            System.arraycopy(other.wrote, 0, wrote, 0, MOST_WRITERS);
            lapsed = other.lapsed;
            hour = other.hour;
            written = other.written;
            writtenStrokes = other.writtenStrokes;
        }

        int whyNotWrite(int w, int b, int place) {
            if (wrote[w] >= shore.pace[w]) {
                return 1;
            }
            return signs[placeIndex(b, place)] != NONE ? 2 : 0;
        }

        void putSign(int w, int b, int place, int sign) {
            signs[placeIndex(b, place)] = sign;
            hands[placeIndex(b, place)] = w;
            signCount[b]++;
            wrote[w]++;
            written++;
            writtenStrokes += STROKES[sign];
        }

        int whyNotTread(int b, int place) {
            return signs[placeIndex(b, place)] == NONE ? 1 : 0;
        }

        void removeSign(int b, int place) {
            signs[placeIndex(b, place)] = NONE;
            hands[placeIndex(b, place)] = NONE;
            signCount[b]--;
        }

        int hoursLeft() {
            return ALL_HOURS - hour;
        }

        void passHours(int n) {
            for (int i = 0; i < n; i++) {
                washBands(shore.tideOf(hour));
                for (int l = 0; l < shore.laws; l++) {
                    if (!hasLapsed(l)) {
                        makeOlder(l);
                    }
                }
                Arrays.fill(wrote, 0);
                hour++;
            }
        }

        private void washBands(int tide) {
            for (int b = 0; b < shore.bands; b++) {
                if (shore.height[b] <= tide) {
                    wash(b);
                }
            }
        }

        private void wash(int b) {
            Arrays.fill(signs, placeIndex(b, 0), placeIndex(b, MOST_PLACES), NONE);
            Arrays.fill(hands, placeIndex(b, 0), placeIndex(b, MOST_PLACES), NONE);
            signCount[b] = 0;
            washed[b]++;
        }

        private void makeOlder(int l) {
            if (firstBandOf(l) != NONE) {
                ages[l] = 0;
                return;
            }
            ages[l]++;
            if (ages[l] >= shore.lapse) {
                lapsed |= 1 << l;
            }
        }

        boolean hasLapsed(int l) {
            return (lapsed >> l & 1) != 0;
        }

        int firstBandOf(int l) {
            for (int b = 0; b < shore.bands; b++) {
                if (canBeRead(l, b)) {
                    return b;
                }
            }
            return NONE;
        }

        boolean canBeRead(int l, int b) {
            if (signCount[b] < shore.lawLength[l]) {
                return false;
            }
            for (int place = 0; place + shore.lawLength[l] <= shore.wide[b]; place++) {
                if (standsAt(l, placeIndex(b, place))) {
                    return true;
                }
            }
            return false;
        }

        private boolean standsAt(int l, int index) {
            for (int k = 0; k < shore.lawLength[l]; k++) {
                if (signs[index + k] != shore.lawSigns[l * MOST_LAW_SIGNS + k]) {
                    return false;
                }
            }
            return true;
        }

        int lawsReadIn(int b) {
            int read = 0;
            for (int l = 0; l < shore.laws; l++) {
                if (canBeRead(l, b)) {
                    read |= 1 << l;
                }
            }
            return read;
        }

        int lawsRead() {
            int read = 0;
            for (int b = 0; b < shore.bands; b++) {
                read |= lawsReadIn(b);
            }
            return read;
        }

        int allSigns() {
            int sum = 0;
            for (int b = 0; b < shore.bands; b++) {
                sum += signCount[b];
            }
            return sum;
        }

        boolean hasSignBy(int w, int b) {
            for (int place = 0; place < shore.wide[b]; place++) {
                if (hands[placeIndex(b, place)] == w) {
                    return true;
                }
            }
            return false;
        }

        // The table comes round, so no HOUR behind one round of it can be the first to wash.
        int hoursTillWashed(int b) {
            for (int i = 0; i < shore.tides && i < hoursLeft(); i++) {
                if (shore.tideOf(hour + i) >= shore.height[b]) {
                    return i + 1;
                }
            }
            return NONE;
        }

        int bestPlaceToAsk(int b) {
            if (shore.lawsFitting(signs, placeIndex(b, 0), shore.wide[b]) == 0) {
                return NONE;
            }
            System.arraycopy(signs, placeIndex(b, 0), askRow, 0, MOST_PLACES);
            int best = NONE;
            int least = MOST_LAWS + 1;
            for (int place = 0; place < shore.wide[b]; place++) {
                if (askRow[place] == NONE) {
                    int left = mostLeftByAsking(place, shore.wide[b]);
                    if (left < least) {
                        least = left;
                        best = place;
                    }
                }
            }
            return best;
        }

        private int mostLeftByAsking(int place, int places) {
            int most = 0;
            for (int sign = 0; sign <= 9; sign++) {
                askRow[place] = sign;
                most = Math.max(most, Integer.bitCount(shore.lawsFitting(askRow, 0, places)));
            }
            askRow[place] = NONE;
            return most;
        }
    }

    /** Copies of the beach ahead of the latest acts, in a ring. */
    private static final class Past {
        private static final int MOST_ACTS = 8;

        final Beach[] copies = new Beach[MOST_ACTS];
        int first = 0;
        int size = 0;

        Past(Shore shore) {
            for (int i = 0; i < MOST_ACTS; i++) {
                copies[i] = new Beach(shore);
            }
        }

        void clear() {
            first = 0;
            size = 0;
        }

        void keepCopy(Beach beach) {
            if (size == MOST_ACTS) {
                first = (first + 1) % MOST_ACTS;
                size--;
            }
            copies[(first + size) % MOST_ACTS].copyFrom(beach);
            size++;
        }

        boolean bringBack(Beach beach) {
            if (size == 0) {
                return false;
            }
            size--;
            beach.copyFrom(copies[(first + size) % MOST_ACTS]);
            return true;
        }
    }

    /** HOURS by draws. */
    private static final class Draws {
        static final int MOST_SEEDS = 30;
        static final int ODDS_HOURS = 20;

        final Shore shore;
        int x = 0;

        Draws(Shore shore) {
            this.shore = shore;
        }

        void start(int seed) {
            x = seed;
        }

        private int drawOf(int n) {
            x = x * 1103515245 + 12345;
            return n > 0 ? (x >>> 8) % n : 0;
        }

        void passHourIn(Beach beach) {
            if (shore.bands > 0) {
                for (int w = 0; w < shore.writers && shore.laws > 0; w++) {
                    letWrite(beach, w);
                }
                letTread(beach);
            }
            beach.passHours(1);
        }

        private void letWrite(Beach beach, int w) {
            int l = drawOf(shore.laws);
            int b = drawOf(shore.bands);
            int start = drawOf(MOST_PLACES);
            for (int k = 0; k < shore.lawLength[l]; k++) {
                if (shore.hasPlace(b, start + k) && beach.whyNotWrite(w, b, start + k) == 0) {
                    beach.putSign(w, b, start + k, shore.lawSign(l, k));
                }
            }
        }

        private void letTread(Beach beach) {
            int b = drawOf(shore.bands);
            int place = drawOf(MOST_PLACES);
            if (shore.hasPlace(b, place) && beach.whyNotTread(b, place) == 0) {
                beach.removeSign(b, place);
            }
        }
    }

    /** How seldom a LAW must be written. */
    private static final class Keeping {
        static final int MOST_KEPT_HOURS = 16;
        private static final int HEIGHTS = MOST_HEIGHT + 1;
        private static final int STATES = MOST_LAPSE * HEIGHTS;
        private static final int FAR = 1000;

        final Shore shore;
        // By AGE and by the height of the highest BAND in which the LAW stands (0: in none).
        // A higher BAND outlives all lower ones, so nothing else matters for the HOURS to come.
        int[] times = new int[STATES];
        int[] timesBehind = new int[STATES];

        Keeping(Shore shore) {
            this.shore = shore;
        }

        int fewestTimes(Beach beach, int l, int hours) {
            int best = highestWideEnough(l);
            Arrays.fill(times, FAR);
            setFewer(times, beach.ages[l], highestReading(beach, l), 0);
            for (int i = 0; i < hours; i++) {
                Arrays.fill(timesBehind, FAR);
                goThrough(shore.tideOf(beach.hour + i), best);
                int[] spare = times;
                times = timesBehind;
                timesBehind = spare;
            }
            int fewest = FAR;
            for (int i = 0; i < STATES; i++) {
                fewest = Math.min(fewest, times[i]);
            }
            return fewest == FAR ? NONE : fewest;
        }

        private void goThrough(int tide, int best) {
            for (int age = 0; age < shore.lapse; age++) {
                for (int high = 0; high < HEIGHTS; high++) {
                    int sofar = times[age * HEIGHTS + high];
                    if (sofar < FAR) {
                        passHourAt(age, high, tide, sofar);
                        if (best > high) {
                            passHourAt(age, best, tide, sofar + 1);
                        }
                    }
                }
            }
        }

        private void passHourAt(int age, int high, int tide, int sofar) {
            if (high > 0 && high > tide) {
                setFewer(timesBehind, 0, high, sofar);
            } else if (age + 1 < shore.lapse) {
                setFewer(timesBehind, age + 1, 0, sofar);
            }
        }

        private static void setFewer(int[] row, int age, int high, int count) {
            int i = age * HEIGHTS + high;
            if (i >= 0 && i < row.length && count < row[i]) {
                row[i] = count;
            }
        }

        private int highestWideEnough(int l) {
            int best = 0;
            for (int b = 0; b < shore.bands; b++) {
                if (shore.wide[b] >= shore.lawLength[l]) {
                    best = Math.max(best, shore.height[b]);
                }
            }
            return best;
        }

        private int highestReading(Beach beach, int l) {
            int best = 0;
            for (int b = 0; b < shore.bands; b++) {
                if (beach.canBeRead(l, b)) {
                    best = Math.max(best, shore.height[b]);
                }
            }
            return best;
        }
    }

    /** By how few STROKES a LAW is made whole, and where by the latest answer. */
    private static final class Mending {
        final Shore shore;
        int band = NONE;
        int place = NONE;
        int missing = NONE;

        Mending(Shore shore) {
            this.shore = shore;
        }

        int fewestStrokes(Beach beach, int l) {
            int least = NONE;
            for (int b = 0; b < shore.bands; b++) {
                for (int start = 0; start + shore.lawLength[l] <= shore.wide[b]; start++) {
                    int index = placeIndex(b, start);
                    int strokes = shore.nothingAgainst(beach.signs, index, l) ? strokesMissing(beach, l, index) : NONE;
                    if (strokes != NONE && (least == NONE || strokes < least)) {
                        least = strokes;
                        band = b;
                        place = start;
                    }
                }
            }
            if (least != NONE) {
                missing = signsMissing(beach, l, placeIndex(band, place));
            }
            return least;
        }

        private int strokesMissing(Beach beach, int l, int index) {
            int sum = 0;
            for (int k = 0; k < shore.lawLength[l]; k++) {
                if (beach.signs[index + k] == NONE) {
                    sum += STROKES[shore.lawSign(l, k)];
                }
            }
            return sum;
        }

        private int signsMissing(Beach beach, int l, int index) {
            int bits = 0;
            for (int k = 0; k < shore.lawLength[l]; k++) {
                if (beach.signs[index + k] == NONE) {
                    bits |= 1 << k;
                }
            }
            return bits;
        }
    }

    /** In how few BANDS all LAWS have room, and where by the latest answer. */
    private static final class Rooms {
        final Shore shore;
        final int[] free = new int[MOST_BANDS];
        final int[] settled = new int[MOST_LAWS];
        final int[] latest = new int[MOST_LAWS];
        int fewest = 0;

        Rooms(Shore shore) {
            this.shore = shore;
            Arrays.fill(latest, NONE);
        }

        int fewestBands(Beach beach) {
            System.arraycopy(shore.wide, 0, free, 0, MOST_BANDS);
            Arrays.fill(settled, NONE);
            fewest = MOST_BANDS + 1;
            settle(beach.lapsed, 0, 0);
            return fewest > MOST_BANDS ? NONE : fewest;
        }

        // Goes by the least BANDS first, so of like ones the first found is the one that is due.
        private void settle(int lapsed, int l, int used) {
            if (used >= fewest) {
                return;
            }
            if (l >= shore.laws) {
                fewest = used;
                System.arraycopy(settled, 0, latest, 0, MOST_LAWS);
                return;
            }
            if ((lapsed >> l & 1) != 0) {
                settle(lapsed, l + 1, used);
                return;
            }
            int length = shore.lawLength[l];
            for (int b = 0; b < shore.bands; b++) {
                if (free[b] >= length) {
                    int more = free[b] == shore.wide[b] ? 1 : 0;
                    free[b] -= length;
                    settled[l] = b;
                    settle(lapsed, l + 1, used + more);
                    free[b] += length;
                }
            }
            settled[l] = NONE;
        }
    }

    /** A BOOK's LINES, and what was told of the latest one that had no FAULT. */
    private static final class Book {
        private static final int MOST_TEXT = 400;
        private static final int MOST_LINES = 40;
        private static final int NO_PLACE_TO_WRITE = 9;
        private static final int TREAD_OFFSET = 10;
        private static final int NO_PLACE_TO_TREAD = 19;
        private static final int TOO_FEW_HOURS = 21;

        final Shore shore;
        final int[] kinds = new int[MOST_LINES];
        final int[] whose = new int[MOST_LINES];
        final int[] bandOf = new int[MOST_LINES];
        final int[] numbers = new int[MOST_LINES];
        final int[] signs = new int[MOST_LINES];
        int lines = 0;
        int why = NONE;
        int lived = NONE;
        int hourThen = NONE;
        int lapsedThen = NONE;

        Book(Shore shore) {
            this.shore = shore;
        }

        void readFrom(Tape tape) {
            lines = 0;
            tape.startReading(MOST_TEXT);
            for (int i = 0; i <= MOST_LINES && tape.fault == 0 && tape.kind != END_OF_TEXT; i++) {
                readLine(tape);
                tape.takeMark(';');
            }
        }

        private void readLine(Tape tape) {
            boolean byKeyword = tape.keyword == TREAD || tape.keyword == HOUR;
            if (!byKeyword && !tape.atName()) {
                tape.fail(CANNOT_COME);
            } else if (!byKeyword && Shore.indexOf(shore.writerName, shore.writers, tape.name) == NONE) {
                tape.fail(WRONG_NAME);
            } else if (lines >= MOST_LINES) {
                tape.fail(TOO_MANY);
            } else {
                readAct(tape);
            }
        }

        private void readAct(Tape tape) {
            int kind = tape.keyword == NONE ? WRITES : tape.keyword;
            int w = NONE;
            int b = NONE;
            int number = 0;
            int sign = 0;
            if (kind == HOUR) {
                tape.advance();
                number = tape.takeNumber(1, MOST_HOURS);
            } else {
                if (kind == WRITES) {
                    w = tape.takeNameOf(shore.writerName, shore.writers);
                    tape.takeKeyword(WRITES);
                } else {
                    tape.advance();
                }
                b = tape.takeNameOf(shore.bandName, shore.bands);
                number = tape.takeNumber(0, MOST_PLACES - 1);
                sign = kind == WRITES ? tape.takeNumber(0, 9) : 0;
            }
            if (tape.fault == 0) {
                kinds[lines] = kind;
                whose[lines] = w;
                bandOf[lines] = b;
                numbers[lines] = number;
                signs[lines] = sign;
                lines++;
            }
        }

        /** Lives the LINES as far as none is WRONG: the one that is, or NONE. */
        int liveIn(Beach beach) {
            why = 0;
            lived = 0;
            for (int i = 0; i < lines && why == 0; i++) {
                why = liveLine(beach, i);
                if (why == 0) {
                    lived++;
                }
            }
            hourThen = beach.hour;
            lapsedThen = beach.lapsed;
            return why == 0 ? NONE : lived;
        }

        private int liveLine(Beach beach, int i) {
            if (kinds[i] == WRITES) {
                return liveWriting(beach, whose[i], bandOf[i], numbers[i], signs[i]);
            }
            if (kinds[i] == TREAD) {
                return liveTreading(beach, bandOf[i], numbers[i]);
            }
            if (numbers[i] > beach.hoursLeft()) {
                return TOO_FEW_HOURS;
            }
            beach.passHours(numbers[i]);
            return 0;
        }

        private int liveWriting(Beach beach, int w, int b, int place, int sign) {
            if (!shore.hasPlace(b, place)) {
                return NO_PLACE_TO_WRITE;
            }
            int reason = beach.whyNotWrite(w, b, place);
            if (reason == 0) {
                beach.putSign(w, b, place, sign);
            }
            return reason;
        }

        private int liveTreading(Beach beach, int b, int place) {
            if (!shore.hasPlace(b, place)) {
                return NO_PLACE_TO_TREAD;
            }
            int reason = beach.whyNotTread(b, place);
            if (reason == 0) {
                beach.removeSign(b, place);
                return 0;
            }
            return TREAD_OFFSET + reason;
        }
    }

    /** A SENTENCE as steps over sets of BANDS (bits), each operator behind what it joins. */
    private static final class Sentence {
        private static final int MOST_TEXT = 200;
        private static final int MOST_ONES = 20;
        private static final int MOST_WITHIN = 8;
        private static final int MOST_STEPS = 2 * MOST_ONES;

        final Shore shore;
        final int[] steps = new int[MOST_STEPS];
        final int[] whats = new int[MOST_STEPS];
        final int[] numbers = new int[MOST_STEPS];
        final int[] stack = new int[MOST_STEPS];
        int stepCount = 0;
        int ones = 0;

        Sentence(Shore shore) {
            this.shore = shore;
        }

        void clear() {
            stepCount = 0;
            ones = 0;
        }

        void copyFrom(Sentence other) {
            System.arraycopy(other.steps, 0, steps, 0, MOST_STEPS);
            System.arraycopy(other.whats, 0, whats, 0, MOST_STEPS);
            System.arraycopy(other.numbers, 0, numbers, 0, MOST_STEPS);
            stepCount = other.stepCount;
            ones = other.ones;
        }

        void readFrom(Tape tape) {
            clear();
            tape.startReading(MOST_TEXT);
            readCond(tape, 1);
            if (tape.kind != END_OF_TEXT) {
                tape.fail(CANNOT_COME);
            }
        }

        // 'and' joins at once and 'or' only when the COND is over, so 'and' binds closer.
        private void readCond(Tape tape, int depth) {
            int ors = 0;
            readOne(tape, depth);
            for (int i = 0; i < MOST_ONES && tape.fault == 0 && (tape.keyword == OR || tape.keyword == AND); i++) {
                boolean and = tape.keyword == AND;
                tape.advance();
                readOne(tape, depth);
                if (and) {
                    addStep(AND, 0, 0);
                } else {
                    ors++;
                }
            }
            for (int i = 0; i < ors; i++) {
                addStep(OR, 0, 0);
            }
        }

        private void readOne(Tape tape, int depth) {
            int kind = tape.atMark('(') ? BRACKET : tape.keyword;
            if (tape.fault != 0 || kind < NOT) {
                tape.fail(CANNOT_COME);
                return;
            }
            if (ones >= MOST_ONES || depth > MOST_WITHIN) {
                tape.fail(TOO_MANY);
                return;
            }
            ones++;
            tape.advance();
            if (kind == NOT) {
                readOne(tape, depth + 1);
                addStep(NOT, 0, 0);
            } else if (kind == BRACKET) {
                readCond(tape, depth + 1);
                tape.takeMark(')');
            } else {
                readPlain(tape, kind);
            }
        }

        private void readPlain(Tape tape, int kind) {
            int what = 0;
            int number = 0;
            if (kind == HOLDS) {
                what = tape.takeNameOf(shore.lawName, shore.laws);
            } else if (kind == BY) {
                what = tape.takeNameOf(shore.writerName, shore.writers);
            } else if (kind >= HEIGHT) {
                what = takeRelation(tape);
                number = tape.takeNumber(0, 999);
            }
            addStep(kind, what, number);
        }

        private static int takeRelation(Tape tape) {
            int relation = tape.value;
            if (tape.atMark('<') || tape.atMark('=') || tape.atMark('>')) {
                tape.advance();
            } else {
                tape.fail(CANNOT_COME);
            }
            return relation;
        }

        private void addStep(int step, int what, int number) {
            if (stepCount < MOST_STEPS) {
                steps[stepCount] = step;
                whats[stepCount] = what;
                numbers[stepCount] = number;
                stepCount++;
            }
        }

        /** The BANDS of which it may be said, as bits. */
        int bandsIn(Beach beach) {
            int all = (1 << shore.bands) - 1;
            int top = 0;
            for (int i = 0; i < stepCount; i++) {
                int step = steps[i];
                if (step == NOT && top >= 1) {
                    stack[top - 1] = all & ~stack[top - 1];
                } else if (step == AND && top >= 2) {
                    top--;
                    stack[top - 1] &= stack[top];
                } else if (step == OR && top >= 2) {
                    top--;
                    stack[top - 1] |= stack[top];
                } else if (top < MOST_STEPS) {
                    stack[top] = bandsAt(beach, i);
                    top++;
                }
            }
            return top > 0 ? stack[0] : 0;
        }

        private int bandsAt(Beach beach, int i) {
            int bits = 0;
            for (int b = 0; b < shore.bands; b++) {
                if (isSo(beach, b, steps[i], whats[i], numbers[i])) {
                    bits |= 1 << b;
                }
            }
            return bits;
        }

        private boolean isSo(Beach beach, int b, int step, int what, int number) {
            switch (step) {
                case BARE:
                    return beach.signCount[b] == 0;
                case FULL:
                    return beach.signCount[b] == shore.wide[b];
                case WET:
                    return shore.tideOf(beach.hour) >= shore.height[b];
                case HOLDS:
                    return shore.hasLaw(what) && beach.canBeRead(what, b);
                case BY:
                    return beach.hasSignBy(what, b);
                case HEIGHT:
                    return compares(shore.height[b], what, number);
                case SIGNS:
                    return compares(beach.signCount[b], what, number);
                case WASHED:
                    return compares(beach.washed[b], what, number);
                case NUMBER:
                    return compares(b, what, number);
                default:
                    return false;
            }
        }

        private static boolean compares(int value, int relation, int number) {
            if (relation == '<') {
                return value < number;
            }
            return relation == '>' ? value > number : value == number;
        }
    }
}
