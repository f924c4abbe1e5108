import java.util.ArrayDeque;
import java.util.ArrayList;
import java.util.Arrays;
import java.util.HashMap;
import java.util.HashSet;
import java.util.List;
import java.util.Map;
import java.util.NoSuchElementException;
import java.util.Set;
import java.util.function.IntPredicate;
import java.util.regex.Matcher;
import java.util.regex.Pattern;

/** A second telling of the document, slow and by other means than SandLetters, for ModelTest. */
final class Model {
    private static final Set<String> RESERVED = Set.of("band", "tide", "writer", "law", "lapse", "writes", "tread",
        "hour", "or", "and", "not", "bare", "full", "wet", "holds", "by", "height", "signs", "washed", "number");
    private static final int[] STROKES = {6, 1, 5, 5, 4, 5, 6, 3, 7, 6};

    private static final class Fault extends RuntimeException {
        private static final long serialVersionUID = 1L;
        final int kind;
        final int place;

        Fault(int kind, int place) {
            super(null, null, false, false);
            this.kind = kind;
            this.place = place;
        }
    }

    private record Token(char sort, int at, String text) {
    }

    private record Band(String name, int height, int wide) {
    }

    private record Writer(String name, int pace) {
    }

    private record Law(String name, String signs) {
    }

    private record Shore(List<Band> bands, List<Integer> tides, List<Writer> writers, List<Law> laws, int lapse, int lines) {
    }

    private interface Act {
        int live(World w);
    }

    private static final class World {
        String[] rows;
        String[] hands;
        int[] washed;
        int[] ages;
        boolean[] lapsed;
        int[] wrote;
        int hour;
        int written;
        int strokes;

        World(Shore s) {
            rows = new String[s.bands.size()];
            for (int b = 0; b < rows.length; b++) {
                rows[b] = ".".repeat(s.bands.get(b).wide);
            }
            hands = rows.clone();
            washed = new int[rows.length];
            ages = new int[s.laws.size()];
            lapsed = new boolean[s.laws.size()];
            wrote = new int[s.writers.size()];
        }

        World(World o) {
            rows = o.rows.clone();
            hands = o.hands.clone();
            washed = o.washed.clone();
            ages = o.ages.clone();
            lapsed = o.lapsed.clone();
            wrote = o.wrote.clone();
            hour = o.hour;
            written = o.written;
            strokes = o.strokes;
        }
    }

    private record Image(Shore shore, World world, IntPredicate said) {
    }

    private String tape = "";
    private int fault = 0;
    private Shore shore = new Shore(List.of(), List.of(), List.of(), List.of(), 3, 0);
    private World world = new World(shore);
    private IntPredicate said = null;
    private final ArrayDeque<World> past = new ArrayDeque<>();
    private final Image[] images = new Image[2];
    private int[] mended = null;
    private int[] roomed = null;
    private String rowText = "";
    private int[] toldOf = null;

    private List<Token> tokens;
    private int at;
    private int ones;

    // ---- texts ----

    int feed(int... numbers) {
        if (tape.length() + 20 > 940) {
            return -1;
        }
        StringBuilder s = new StringBuilder(tape);
        for (int n : numbers) {
            for (byte b : java.nio.ByteBuffer.allocate(4).putInt(n).array()) {
                s.append((char) (b & 255));
            }
        }
        tape = s.toString();
        return tape.length();
    }

    boolean end(int n) {
        if (n < 0 || n > tape.length()) {
            return false;
        }
        tape = tape.substring(0, n);
        return true;
    }

    private void tokenize(int most) {
        tokens = new ArrayList<>();
        at = 0;
        Matcher m = Pattern.compile("[a-z0-9]+|[^ \\n]").matcher(tape);
        while (m.find()) {
            if (m.start() >= most) {
                break;
            }
            String t = m.group();
            char sort = 'x';
            if (t.matches("[a-z]{1,7}")) {
                sort = 'w';
            } else if (t.matches("[0-9]{1,3}")) {
                sort = 'n';
            } else if (t.matches("[;<=>()]")) {
                sort = 'm';
            }
            tokens.add(new Token(sort, m.start(), t));
        }
        tokens.add(tape.length() > most ? new Token('x', most, "") : new Token('e', tape.length(), ""));
        tape = "";
    }

    private Token peek() {
        return tokens.get(Math.min(at, tokens.size() - 1));
    }

    private Token take() {
        Token t = peek();
        at++;
        return t;
    }

    private void mark(String text) {
        Token t = take();
        if (t.sort != 'm' || !t.text.equals(text)) {
            throw new Fault(1, t.at);
        }
    }

    private int number(int low, int high) {
        Token t = take();
        if (t.sort != 'n') {
            throw new Fault(1, t.at);
        }
        int n = Integer.parseInt(t.text);
        if (n < low || n > high) {
            throw new Fault(2, t.at);
        }
        return n;
    }

    private Token nameToken() {
        Token t = take();
        if (t.sort != 'w' || RESERVED.contains(t.text)) {
            throw new Fault(1, t.at);
        }
        return t;
    }

    private String newName(Set<String> names) {
        Token t = nameToken();
        if (!names.add(t.text)) {
            throw new Fault(3, t.at);
        }
        return t.text;
    }

    private int known(List<String> names) {
        Token t = nameToken();
        int i = names.indexOf(t.text);
        if (i < 0) {
            throw new Fault(3, t.at);
        }
        return i;
    }

    private List<String> bandNames() {
        return shore.bands.stream().map(Band::name).toList();
    }

    private List<String> writerNames() {
        return shore.writers.stream().map(Writer::name).toList();
    }

    private List<String> lawNames() {
        return shore.laws.stream().map(Law::name).toList();
    }

    int shore() {
        tokenize(900);
        try {
            shore = readShore();
            world = new World(shore);
            said = null;
            past.clear();
            fault = 0;
            return shore.lines;
        } catch (Fault f) {
            fault = f.kind;
            return -1 - f.place;
        }
    }

    private static void most(List<?> list, int size, Token t) {
        if (list.size() == size) {
            throw new Fault(4, t.at);
        }
    }

    private Shore readShore() {
        List<Band> bands = new ArrayList<>();
        List<Integer> tides = new ArrayList<>();
        List<Writer> writers = new ArrayList<>();
        List<Law> laws = new ArrayList<>();
        Set<String> names = new HashSet<>();
        int lapse = -1;
        int lines = 0;
        while (peek().sort != 'e') {
            Token t = take();
            String word = t.sort == 'w' ? t.text : "";
            if (word.equals("band")) {
                most(bands, 6, t);
                bands.add(new Band(newName(names), number(1, 9), number(2, 12)));
            } else if (word.equals("tide")) {
                most(tides, 8, t);
                tides.add(number(0, 9));
            } else if (word.equals("writer")) {
                most(writers, 4, t);
                writers.add(new Writer(newName(names), number(1, 9)));
            } else if (word.equals("law")) {
                most(laws, 6, t);
                String name = newName(names);
                Token at = peek();
                String signs = "" + number(10, 999);
                if (laws.stream().anyMatch(l -> l.signs.equals(signs))) {
                    throw new Fault(3, at.at);
                }
                laws.add(new Law(name, signs));
            } else if (word.equals("lapse")) {
                if (lapse >= 0) {
                    throw new Fault(3, t.at);
                }
                lapse = number(1, 30);
            } else {
                throw new Fault(1, t.at);
            }
            mark(";");
            lines++;
        }
        return new Shore(bands, tides, writers, laws, lapse < 0 ? 3 : lapse, lines);
    }

    int fault() {
        return fault;
    }

    // ---- what is so ----

    private boolean isBand(int b) {
        return b >= 0 && b < shore.bands.size();
    }

    private boolean isPlace(int b, int p) {
        return isBand(b) && p >= 0 && p < shore.bands.get(b).wide;
    }

    private boolean isLaw(int l) {
        return l >= 0 && l < shore.laws.size();
    }

    private boolean isWriter(int w) {
        return w >= 0 && w < shore.writers.size();
    }

    private static int signsIn(String row) {
        return row.replace(".", "").length();
    }

    private int bits(int n, IntPredicate p) {
        int bits = 0;
        for (int i = 0; i < n; i++) {
            bits += p.test(i) ? 1 << i : 0;
        }
        return bits;
    }

    private int readIn(World w, int b) {
        return bits(shore.laws.size(), l -> w.rows[b].contains(shore.laws.get(l).signs));
    }

    int band(int b, int what) {
        if (!isBand(b) || what < 0 || what > 4) {
            throw new NoSuchElementException();
        }
        return List.of(shore.bands.get(b).height, shore.bands.get(b).wide, signsIn(world.rows[b]), world.washed[b],
            readIn(world, b)).get(what);
    }

    int sign(int b, int p) {
        return !isPlace(b, p) || world.rows[b].charAt(p) == '.' ? -1 : world.rows[b].charAt(p) - '0';
    }

    int hand(int b, int p) {
        return !isPlace(b, p) || world.hands[b].charAt(p) == '.' ? -1 : world.hands[b].charAt(p) - '0';
    }

    private static int strokesOf(String signs) {
        return signs.chars().map(c -> STROKES[c - '0']).sum();
    }

    int law(int l, int what) {
        if (!isLaw(l) || what < 0 || what > 4) {
            throw new NoSuchElementException();
        }
        String signs = shore.laws.get(l).signs;
        int first = -1;
        for (int b = world.rows.length - 1; b >= 0; b--) {
            first = world.rows[b].contains(signs) ? b : first;
        }
        return List.of(signs.length(), world.ages[l], world.lapsed[l] ? 1 : 0, first, strokesOf(signs)).get(what);
    }

    int lawAt(int l, int k) {
        return !isLaw(l) || k < 0 || k >= shore.laws.get(l).signs.length() ? -1 : shore.laws.get(l).signs.charAt(k) - '0';
    }

    int writer(int w, int what) {
        if (!isWriter(w)) {
            return -1;
        }
        return what == 0 ? shore.writers.get(w).pace : what == 1 ? world.wrote[w] : -1;
    }

    private int tide(int hour) {
        return shore.tides.isEmpty() ? -1 : shore.tides.get(hour % shore.tides.size());
    }

    private int lapsedBits(World w) {
        return bits(w.lapsed.length, l -> w.lapsed[l]);
    }

    int now(int what) {
        int all = 0;
        int read = 0;
        for (int b = 0; b < world.rows.length; b++) {
            all += signsIn(world.rows[b]);
            read |= readIn(world, b);
        }
        int[] answers = {world.hour, tide(world.hour), all, read, lapsedBits(world), world.written, world.strokes};
        return what < 0 || what > 6 ? -1 : answers[what];
    }

    int count(int what) {
        int[] answers = {shore.bands.size(), shore.writers.size(), shore.laws.size(), shore.tides.size(), shore.lapse,
            tape.length()};
        return what < 0 || what > 5 ? -1 : answers[what];
    }

    // ---- acts ----

    private static String with(String row, int p, char c) {
        return row.substring(0, p) + c + row.substring(p + 1);
    }

    private int tryWrite(World world, int w, int b, int p, int sign) {
        if (!isPlace(b, p)) {
            return -1;
        }
        if (world.wrote[w] == shore.writers.get(w).pace) {
            return 1;
        }
        if (world.rows[b].charAt(p) != '.') {
            return 2;
        }
        world.rows[b] = with(world.rows[b], p, (char) ('0' + sign));
        world.hands[b] = with(world.hands[b], p, (char) ('0' + w));
        world.wrote[w]++;
        world.written++;
        world.strokes += STROKES[sign];
        return 0;
    }

    private int tryTread(World world, int b, int p) {
        if (!isPlace(b, p)) {
            return -1;
        }
        if (world.rows[b].charAt(p) == '.') {
            return 1;
        }
        world.rows[b] = with(world.rows[b], p, '.');
        world.hands[b] = with(world.hands[b], p, '.');
        return 0;
    }

    private int tryHours(World w, int n) {
        int gone = 0;
        while (gone < n && w.hour < 400) {
            for (int b = 0; b < w.rows.length; b++) {
                if (shore.bands.get(b).height <= tide(w.hour)) {
                    w.rows[b] = w.rows[b].replaceAll("[0-9]", ".");
                    w.hands[b] = w.rows[b];
                    w.washed[b]++;
                }
            }
            for (int l = 0; l < w.lapsed.length; l++) {
                String signs = shore.laws.get(l).signs;
                if (!w.lapsed[l]) {
                    w.ages[l] = Arrays.stream(w.rows).anyMatch(r -> r.contains(signs)) ? 0 : w.ages[l] + 1;
                    w.lapsed[l] = w.ages[l] == shore.lapse;
                }
            }
            w.wrote = new int[w.wrote.length];
            w.hour++;
            gone++;
        }
        return gone;
    }

    private void became(World next) {
        past.addLast(world);
        if (past.size() > 8) {
            past.removeFirst();
        }
        world = next;
    }

    int write(int w, int b, int p, int sign) {
        if (!isWriter(w) || sign < 0 || sign > 9) {
            return -1;
        }
        World next = new World(world);
        int why = tryWrite(next, w, b, p, sign);
        if (why == 0) {
            became(next);
        }
        return why;
    }

    int tread(int b, int p) {
        World next = new World(world);
        int why = tryTread(next, b, p);
        if (why == 0) {
            became(next);
        }
        return why;
    }

    int hours(int n) {
        if (n < 1 || n > 60) {
            return -1;
        }
        World next = new World(world);
        int gone = tryHours(next, n);
        if (gone > 0) {
            became(next);
        }
        return gone;
    }

    int undo() {
        if (past.isEmpty()) {
            return -1;
        }
        world = past.removeLast();
        return past.size();
    }

    // ---- what may be asked ----

    private int fitting(String row) {
        return bits(shore.laws.size(), l -> {
            String signs = shore.laws.get(l).signs;
            for (int p = 0; p + signs.length() <= row.length(); p++) {
                boolean fits = true;
                for (int k = 0; k < signs.length(); k++) {
                    char c = row.charAt(p + k);
                    fits &= c == '.' || c == signs.charAt(k);
                }
                if (fits) {
                    return true;
                }
            }
            return false;
        });
    }

    int fits(int b) {
        return isBand(b) ? fitting(world.rows[b]) : -1;
    }

    int ask(int b) {
        if (!isBand(b) || fitting(world.rows[b]) == 0) {
            return -1;
        }
        int best = -1;
        int least = 99;
        for (int p = 0; p < world.rows[b].length(); p++) {
            if (world.rows[b].charAt(p) == '.') {
                int worst = 0;
                for (char s = '0'; s <= '9'; s++) {
                    worst = Math.max(worst, Integer.bitCount(fitting(with(world.rows[b], p, s))));
                }
                if (worst < least) {
                    least = worst;
                    best = p;
                }
            }
        }
        return best;
    }

    int dry(int b) {
        if (!isBand(b)) {
            return -1;
        }
        World w = new World(world);
        for (int n = 1; w.hour < 400; n++) {
            tryHours(w, 1);
            if (w.washed[b] > world.washed[b]) {
                return n;
            }
        }
        return -1;
    }

    /** By all sets of BANDS in which it may be written ahead of each HOUR. */
    int keep(int l, int k) {
        if (!isLaw(l) || k < 1 || k > 16 || world.lapsed[l]) {
            return -1;
        }
        String signs = shore.laws.get(l).signs;
        int n = world.rows.length;
        int wideEnough = bits(n, b -> shore.bands.get(b).wide >= signs.length());
        Map<Integer, Integer> states = new HashMap<>();
        states.put(bits(n, b -> world.rows[b].contains(signs)) * 100 + world.ages[l], 0);
        for (int h = world.hour; h < world.hour + k; h++) {
            int tide = tide(h);
            int dry = bits(n, b -> shore.bands.get(b).height > tide);
            Map<Integer, Integer> next = new HashMap<>();
            for (Map.Entry<Integer, Integer> e : states.entrySet()) {
                for (int set = wideEnough;; set = set - 1 & wideEnough) {
                    int stands = (e.getKey() / 100 | set) & dry;
                    int age = stands != 0 ? 0 : e.getKey() % 100 + 1;
                    if (age < shore.lapse) {
                        next.merge(stands * 100 + age, e.getValue() + Integer.bitCount(set), Math::min);
                    }
                    if (set == 0) {
                        break;
                    }
                }
            }
            states = next;
        }
        return states.values().stream().mapToInt(v -> v).min().orElse(-1);
    }

    int mend(int l) {
        if (!isLaw(l)) {
            return -1;
        }
        String signs = shore.laws.get(l).signs;
        int least = -1;
        for (int b = 0; b < world.rows.length; b++) {
            for (int p = 0; p + signs.length() <= world.rows[b].length(); p++) {
                int cost = 0;
                int which = 0;
                for (int k = 0; k < signs.length() && cost >= 0; k++) {
                    char c = world.rows[b].charAt(p + k);
                    if (c == '.') {
                        cost += STROKES[signs.charAt(k) - '0'];
                        which |= 1 << k;
                    } else if (c != signs.charAt(k)) {
                        cost = -1;
                    }
                }
                if (cost >= 0 && (least < 0 || cost < least)) {
                    least = cost;
                    mended = new int[] {b, p, which};
                }
            }
        }
        return least;
    }

    int mendAt(int what) {
        return mended == null || what < 0 || what > 2 ? -1 : mended[what];
    }

    int room() {
        int n = world.rows.length;
        List<Integer> open = new ArrayList<>();
        for (int l = 0; l < world.lapsed.length; l++) {
            if (!world.lapsed[l]) {
                open.add(l);
            }
        }
        int least = -1;
        int[] band = new int[open.size()];
        boolean more = n > 0 || open.isEmpty();
        while (more) {
            int[] used = new int[n];
            for (int i = 0; i < band.length; i++) {
                used[band[i]] += shore.laws.get(open.get(i)).signs.length();
            }
            int bands = 0;
            boolean all = true;
            for (int b = 0; b < n; b++) {
                bands += used[b] > 0 ? 1 : 0;
                all &= used[b] <= shore.bands.get(b).wide;
            }
            if (all && (least < 0 || bands < least)) {
                least = bands;
                roomed = new int[6];
                Arrays.fill(roomed, -1);
                for (int i = 0; i < band.length; i++) {
                    roomed[open.get(i)] = band[i];
                }
            }
            int i = band.length - 1;
            while (i >= 0 && band[i] == n - 1) {
                band[i--] = 0;
            }
            more = i >= 0;
            if (more) {
                band[i]++;
            }
        }
        return least;
    }

    int roomOf(int l) {
        return roomed == null || l < 0 || l > 5 ? -1 : roomed[l];
    }

    /** By all sets of signs that may be lost. */
    int bears(int l) {
        if (!isLaw(l)) {
            return -1;
        }
        String signs = shore.laws.get(l).signs;
        int m = 0;
        while (m < signs.length() && toldApart(l, signs, m + 1)) {
            m++;
        }
        return m;
    }

    private boolean toldApart(int l, String signs, int lost) {
        for (int set = 0; set < 1 << signs.length(); set++) {
            if (Integer.bitCount(set) == lost) {
                StringBuilder left = new StringBuilder(signs);
                for (int k = 0; k < signs.length(); k++) {
                    if ((set >> k & 1) != 0) {
                        left.setCharAt(k, '.');
                    }
                }
                for (int o = 0; o < shore.laws.size(); o++) {
                    String other = shore.laws.get(o).signs;
                    if (o != l && other.length() == signs.length() && other.matches(left.toString())) {
                        return false;
                    }
                }
            }
        }
        return true;
    }

    int fullest() {
        int best = -1;
        for (int b = world.rows.length - 1; b >= 0; b--) {
            if (best < 0 || signsIn(world.rows[b]) >= signsIn(world.rows[best])) {
                best = b;
            }
        }
        return best;
    }

    int row(int b) {
        if (!isBand(b)) {
            return -1;
        }
        rowText = shore.bands.get(b).name + " " + world.rows[b];
        return rowText.length();
    }

    int byteAt(int i) {
        return i < 0 || i >= rowText.length() ? -1 : rowText.charAt(i);
    }

    // ---- draws ----

    private static final class Dice {
        int x;

        int draw(int n) {
            x = x * 1103515245 + 12345;
            return (x >>> 8) % n;
        }
    }

    private int tryDrawn(World w, int n, int seed) {
        Dice dice = new Dice();
        dice.x = seed;
        int gone = 0;
        while (gone < n && w.hour < 400) {
            for (int v = 0; v < shore.writers.size(); v++) {
                if (!shore.bands.isEmpty() && !shore.laws.isEmpty()) {
                    String signs = shore.laws.get(dice.draw(shore.laws.size())).signs;
                    int b = dice.draw(shore.bands.size());
                    int p = dice.draw(12);
                    for (int k = 0; k < signs.length(); k++) {
                        int why = tryWrite(w, v, b, p + k, signs.charAt(k) - '0');
                        if (why == 1 || why == -1) {
                            break;
                        }
                    }
                }
            }
            if (!shore.bands.isEmpty()) {
                int b = dice.draw(shore.bands.size());
                tryTread(w, b, dice.draw(12));
            }
            gone += tryHours(w, 1);
        }
        return gone;
    }

    int drawn(int n, int seed) {
        if (n < 1 || n > 60) {
            return -1;
        }
        World next = new World(world);
        int gone = tryDrawn(next, n, seed);
        if (gone > 0) {
            became(next);
        }
        return gone;
    }

    int odds(int l, int n, int seed) {
        if (!isLaw(l) || n < 1 || n > 30) {
            return -1;
        }
        int good = 0;
        for (int i = 0; i < n; i++) {
            World w = new World(world);
            tryDrawn(w, 20, seed + i);
            good += w.lapsed[l] ? 0 : 1;
        }
        return good;
    }

    // ---- the book ----

    int book(int lives) {
        if (lives != 0 && lives != 1) {
            return -1000;
        }
        tokenize(400);
        List<Act> acts;
        try {
            acts = readBook();
            fault = 0;
        } catch (Fault f) {
            fault = f.kind;
            return -2 - f.place;
        }
        World w = new World(world);
        int why = 0;
        int lived = 0;
        for (Act act : acts) {
            why = act.live(w);
            if (why != 0) {
                break;
            }
            lived++;
        }
        toldOf = new int[] {why, lived, w.hour, lapsedBits(w)};
        if (lives == 1 && lived > 0) {
            became(w);
        }
        return why == 0 ? -1 : lived;
    }

    private List<Act> readBook() {
        List<Act> acts = new ArrayList<>();
        while (peek().sort != 'e') {
            Token t = peek();
            boolean word = t.sort == 'w' && (t.text.equals("tread") || t.text.equals("hour"));
            int w = -1;
            if (word) {
                take();
            } else {
                w = known(writerNames());
            }
            if (acts.size() == 40) {
                throw new Fault(4, t.at);
            }
            acts.add(readAct(word ? t.text : "writes", w));
            mark(";");
        }
        return acts;
    }

    private Act readAct(String kind, int w) {
        if (kind.equals("hour")) {
            int n = number(1, 60);
            return v -> n > 400 - v.hour ? 21 : tryHours(v, n) * 0;
        }
        if (kind.equals("tread")) {
            int b = known(bandNames());
            int p = number(0, 11);
            return v -> {
                int why = tryTread(v, b, p);
                return why == -1 ? 19 : why == 1 ? 11 : 0;
            };
        }
        Token t = take();
        if (t.sort != 'w' || !t.text.equals("writes")) {
            throw new Fault(1, t.at);
        }
        int b = known(bandNames());
        int p = number(0, 11);
        int s = number(0, 9);
        return v -> {
            int why = tryWrite(v, w, b, p, s);
            return why == -1 ? 9 : why;
        };
    }

    int told(int what) {
        return toldOf == null || what < 0 || what > 3 ? -1 : toldOf[what];
    }

    // ---- the sentence ----

    int sentence() {
        tokenize(200);
        ones = 0;
        try {
            IntPredicate p = cond(0);
            if (peek().sort != 'e') {
                throw new Fault(1, peek().at);
            }
            said = p;
            fault = 0;
            return ones;
        } catch (Fault f) {
            fault = f.kind;
            return -1 - f.place;
        }
    }

    private boolean takeWord(String word) {
        if (peek().sort == 'w' && peek().text.equals(word)) {
            at++;
            return true;
        }
        return false;
    }

    private IntPredicate cond(int within) {
        IntPredicate p = all(within);
        while (takeWord("or")) {
            p = p.or(all(within));
        }
        return p;
    }

    private IntPredicate all(int within) {
        IntPredicate p = one(within);
        while (takeWord("and")) {
            p = p.and(one(within));
        }
        return p;
    }

    private IntPredicate one(int within) {
        Token t = take();
        boolean starts = t.sort == 'm' && t.text.equals("(") || t.sort == 'w' && List.of("not", "bare", "full", "wet",
            "holds", "by", "height", "signs", "washed", "number").contains(t.text);
        if (!starts) {
            throw new Fault(1, t.at);
        }
        ones++;
        if (ones > 20 || within == 8) {
            throw new Fault(4, t.at);
        }
        switch (t.text) {
            case "not":
                return one(within + 1).negate();
            case "(":
                IntPredicate p = cond(within + 1);
                mark(")");
                return p;
            case "bare":
                return b -> signsIn(world.rows[b]) == 0;
            case "full":
                return b -> !world.rows[b].contains(".");
            case "wet":
                return b -> shore.bands.get(b).height <= tide(world.hour);
            case "holds":
                int l = known(lawNames());
                return b -> (readIn(world, b) >> l & 1) != 0;
            case "by":
                int w = known(writerNames());
                return b -> world.hands[b].indexOf('0' + w) >= 0;
            default:
                return compare(t.text);
        }
    }

    private IntPredicate compare(String what) {
        Token sign = take();
        if (sign.sort != 'm' || !"<=>".contains(sign.text)) {
            throw new Fault(1, sign.at);
        }
        int n = number(0, 999);
        return b -> {
            int v = what.equals("height") ? shore.bands.get(b).height
                : what.equals("signs") ? signsIn(world.rows[b])
                : what.equals("washed") ? world.washed[b] : b;
            return sign.text.equals("<") ? v < n : sign.text.equals("=") ? v == n : v > n;
        };
    }

    int said(int k) {
        if (said == null) {
            return -1;
        }
        List<Integer> of = new ArrayList<>();
        for (int b = 0; b < world.rows.length; b++) {
            if (said.test(b)) {
                of.add(b);
            }
        }
        return k == -1 ? of.size() : k < 0 || k >= of.size() ? -1 : of.get(k);
    }

    // ---- images ----

    boolean image(int k) {
        if (k != 0 && k != 1) {
            return false;
        }
        images[k] = new Image(shore, new World(world), said);
        return true;
    }

    boolean restore(int k) {
        if (k != 0 && k != 1 || images[k] == null) {
            return false;
        }
        shore = images[k].shore;
        world = new World(images[k].world);
        said = images[k].said;
        past.clear();
        return true;
    }
}
