import java.util.ArrayList;
import java.util.List;
import java.util.NoSuchElementException;
import java.util.Random;

/** All promises: runs of random calls, each answered by SandLetters and by Model alike. */
public final class ModelTest {
    private static final int RUNS = 3000;
    private static final int CALLS = 170;

    private final Random random;
    private final SandLetters x = new SandLetters();
    private final Model y = new Model();
    private List<String> bands = List.of("a");
    private List<String> writers = List.of("w");
    private List<String> laws = List.of("l");

    private ModelTest(long seed) {
        random = new Random(seed);
    }

    public static void main(String[] args) {
        for (int seed = 0; seed < RUNS; seed++) {
            new ModelTest(seed).run(seed);
        }
        Check.finish();
    }

    private void run(int seed) {
        tellShore(true);
        for (int i = 0; i < CALLS; i++) {
            if (!step("run " + seed + " call " + i)) {
                return;
            }
        }
    }

    private int below(int n) {
        return random.nextInt(n);
    }

    /** Mostly a number that may be, now and then one that may not. */
    private int about(int n) {
        return below(12) == 0 ? below(n + 4) - 2 : below(Math.max(n, 1));
    }

    private String one(List<String> list) {
        return list.isEmpty() || below(40) == 0 ? "zz" : list.get(below(list.size()));
    }

    private boolean same(String call, long got, long due) {
        Check.is(call, got, due);
        return got == due;
    }

    // ---- texts ----

    private void put(String text) {
        putWhole(spoil(text));
    }

    private void putWhole(String text) {
        x.end(0);
        y.end(0);
        byte[] bytes = text.getBytes(java.nio.charset.StandardCharsets.ISO_8859_1);
        for (int i = 0; i < bytes.length; i += 20) {
            int[] n = new int[5];
            for (int k = 0; k < 20; k++) {
                n[k / 4] |= (i + k < bytes.length ? bytes[i + k] & 255 : 32) << 24 - 8 * (k % 4);
            }
            Check.is("feed", x.feed(n[0], n[1], n[2], n[3], n[4]), y.feed(n));
        }
        int n = Math.min(bytes.length, 940);
        Check.is("end", x.end(n) ? 1 : 0, y.end(n) ? 1 : 0);
    }

    private String spoil(String text) {
        StringBuilder s = new StringBuilder(text);
        if (below(4) == 0) {
            String[] bits = {";", "(", ")", "band", " 0 ", "999", "1000", " ", "\n", "x", "A", "and ", " or ", "not ", "<", ".",
                "tide 1;", "hour 2;", "lapse 4;", " by ", "zz", "7"};
            for (int i = below(3); i >= 0; i--) {
                int at = below(s.length() + 1);
                if (below(2) == 0) {
                    s.insert(at, bits[below(bits.length)]);
                } else if (at < s.length()) {
                    s.delete(at, Math.min(s.length(), at + 1 + below(4)));
                }
            }
        }
        if (below(25) == 0) {
            s.insert(below(s.length() + 1), " ".repeat(below(930)));
        }
        if (below(60) == 0) {
            s.append((char) below(256));
        }
        return s.toString();
    }

    private void tellShore(boolean whole) {
        List<String> names = new ArrayList<>(List.of("a", "b", "c", "d", "e", "f", "low", "mid", "u", "v", "w", "longest",
            "l", "m", "n", "o", "p", "q", "r", "s", "t"));
        List<String> lines = new ArrayList<>();
        List<String> newBands = new ArrayList<>();
        List<String> newWriters = new ArrayList<>();
        List<String> newLaws = new ArrayList<>();
        int extra = !whole && below(5) == 0 ? 1 : 0;
        for (int i = below(15) == 0 ? 0 : 1 + below(6 + extra); i > 0; i--) {
            newBands.add(names.remove(below(names.size())));
            lines.add("band " + newBands.get(newBands.size() - 1) + " " + (1 + below(9)) + " " + (2 + below(below(3) == 0 ? 11 : 5)));
        }
        for (int i = below(9 + extra); i > 0; i--) {
            lines.add("tide " + below(10));
        }
        for (int i = below(15) == 0 ? 0 : 1 + below(4 + extra); i > 0; i--) {
            newWriters.add(names.remove(below(names.size())));
            lines.add("writer " + newWriters.get(newWriters.size() - 1) + " " + (1 + below(9)));
        }
        int digits = 2 + below(8);
        java.util.Set<Integer> signs = new java.util.HashSet<>();
        for (int i = below(15) == 0 ? 0 : 1 + below(6 + extra); i > 0; i--) {
            newLaws.add(names.remove(below(names.size())));
            int n = lawNumber(digits);
            for (int tries = 0; tries < 9 && (whole || below(9) > 0) && signs.contains(n); tries++) {
                n = lawNumber(digits + tries > 9 ? 9 : digits + tries);
            }
            signs.add(n);
            lines.add("law " + newLaws.get(newLaws.size() - 1) + " " + n);
        }
        if (below(4) > 0) {
            lines.add("lapse " + (1 + below(below(2) == 0 ? 30 : 6)));
        }
        java.util.Collections.shuffle(lines, random);
        String text = lines.isEmpty() ? "" : String.join(";" + " ".repeat(below(2)), lines) + ";";
        if (whole) {
            putWhole(text);
        } else {
            put(text);
        }
        int got = x.shore();
        Check.is("shore", got, y.shore());
        if (got >= 0) {
            bands = newBands;
            writers = newWriters;
            laws = newLaws;
        }
        Check.is("fault", x.fault(), y.fault());
    }

    private int lawNumber(int digits) {
        int n = (1 + below(digits)) * 10 + below(digits);
        return below(3) > 0 ? n * 10 + below(digits) : n;
    }

    private String bookText() {
        StringBuilder s = new StringBuilder();
        for (int i = below(below(20) == 0 ? 45 : 9); i > 0; i--) {
            int kind = below(8);
            if (kind < 5) {
                s.append(one(writers)).append(" writes ").append(one(bands)).append(' ').append(below(below(3) == 0 ? 12 : 5))
                    .append(' ').append(below(10));
            } else if (kind < 6) {
                s.append("tread ").append(one(bands)).append(' ').append(below(5));
            } else {
                s.append("hour ").append(1 + below(below(5) == 0 ? 60 : 3));
            }
            s.append(below(2) == 0 ? ";" : " ;\n");
        }
        return s.toString();
    }

    private String oneText(int depth) {
        int kind = below(depth > 0 ? 13 : 9);
        switch (kind) {
            case 0:
                return "bare";
            case 1:
                return "full";
            case 2:
                return "wet";
            case 3:
                return "holds " + one(laws);
            case 4:
                return "by " + one(writers);
            case 5:
                return "height" + "<=>".charAt(below(3)) + below(10);
            case 6:
                return "signs " + "<=>".charAt(below(3)) + " " + below(6);
            case 7:
                return "washed " + "<=>".charAt(below(3)) + below(9);
            case 8:
                return "number" + "<=>".charAt(below(3)) + below(6);
            case 9:
            case 10:
                return "not " + oneText(depth - 1);
            default:
                return "(" + condText(depth - 1) + ")";
        }
    }

    private String condText(int depth) {
        StringBuilder s = new StringBuilder(oneText(depth));
        for (int i = below(3); i > 0; i--) {
            s.append(below(2) == 0 ? " and " : " or ").append(oneText(depth));
        }
        return s.toString();
    }

    // ---- calls ----

    private boolean step(String where) {
        int kind = below(40);
        int b = about(bands.size());
        int w = about(writers.size());
        int l = about(laws.size());
        int p = about(8);
        int what = below(9) - 1;
        if (kind < 8) {
            int s = about(10);
            int v = below(6) == 0 || laws.isEmpty() ? s : x.lawAt(l, below(3));
            return same(where + " write", x.write(w, b, p, v), y.write(w, b, p, v)) && writeLaw(where, w, b, l);
        }
        switch (kind) {
            case 8:
                return same(where + " tread", x.tread(b, p), y.tread(b, p));
            case 9:
                int n = below(20) == 0 ? below(64) - 1 : 1 + below(3);
                return same(where + " hours", x.hours(n), y.hours(n));
            case 10:
                return same(where + " undo", x.undo(), y.undo());
            case 11:
                return same(where + " fits", x.fits(b), y.fits(b));
            case 12:
                return same(where + " ask", x.ask(b), y.ask(b));
            case 13:
                return same(where + " dry", x.dry(b), y.dry(b));
            case 14:
                int k = below(19) - 1;
                return same(where + " keep " + k, x.keep(l, k), y.keep(l, k));
            case 15:
                return same(where + " mend", x.mend(l), y.mend(l)) && same(where + " mendAt", x.mendAt(what), y.mendAt(what));
            case 16:
                return below(2) > 0 || same(where + " room", x.room(), y.room());
            case 17:
                return same(where + " roomOf", x.roomOf(l), y.roomOf(l));
            case 18:
                return same(where + " bears", x.bears(l), y.bears(l));
            case 19:
                return same(where + " fullest", x.fullest(), y.fullest());
            case 20:
                return same(where + " row", x.row(b), y.row(b));
            case 21:
                return same(where + " byteAt", x.byteAt(p), y.byteAt(p));
            case 22:
                int d = below(20) == 0 ? below(64) - 1 : 1 + below(4);
                int seed = random.nextInt();
                return same(where + " drawn", x.drawn(d, seed), y.drawn(d, seed));
            default:
                return stepMore(where, kind, b, l, what);
        }
    }

    private boolean writeLaw(String where, int w, int b, int l) {
        if (below(3) > 0 || l < 0 || l >= laws.size()) {
            return true;
        }
        int at = below(5);
        boolean same = true;
        for (int k = 0; k < 3 && same; k++) {
            int s = x.lawAt(l, k);
            same = same(where + " write law", x.write(w, b, at + k, s), y.write(w, b, at + k, s));
        }
        return same;
    }

    private boolean stepMore(String where, int kind, int b, int l, int what) {
        switch (kind) {
            case 23:
                int seed = random.nextInt();
                int n = below(10) == 0 ? below(34) - 1 : 1 + below(4);
                return same(where + " odds", x.odds(l, n, seed), y.odds(l, n, seed));
            case 24:
            case 25:
                put(bookText());
                int lives = below(20) == 0 ? 2 : below(2);
                return same(where + " book", x.book(lives), y.book(lives)) && same(where + " fault", x.fault(), y.fault());
            case 26:
                return same(where + " told", x.told(what), y.told(what));
            case 27:
            case 28:
                put(condText(below(9)));
                return same(where + " sentence", x.sentence(), y.sentence()) && same(where + " fault", x.fault(), y.fault());
            case 29:
            case 30:
                return same(where + " said", x.said(what - 1), y.said(what - 1));
            case 31:
                int i = below(5) - 1;
                return same(where + " image", x.image(i) ? 1 : 0, y.image(i) ? 1 : 0);
            case 32:
                int r = below(8) - 1;
                return same(where + " restore", x.restore(r) ? 1 : 0, y.restore(r) ? 1 : 0);
            case 33:
                if (below(4) == 0) {
                    tellShore(below(2) == 0);
                }
                return true;
            case 34:
                return same(where + " now", x.now(what), y.now(what)) && same(where + " count", x.count(what), y.count(what));
            case 35:
                return same(where + " band", bandOf(true, b, what), bandOf(false, b, what));
            case 36:
                return same(where + " law", lawOf(true, l, what), lawOf(false, l, what));
            case 37:
                return same(where + " writer", x.writer(b, what), y.writer(b, what));
            case 38:
                return same(where + " lawAt", x.lawAt(l, what), y.lawAt(l, what));
            default:
                return everySign(where);
        }
    }

    private boolean everySign(String where) {
        boolean same = true;
        for (int b = -1; b <= 6 && same; b++) {
            for (int p = -1; p <= 12 && same; p++) {
                same = same(where + " sign " + b + " " + p, x.sign(b, p), y.sign(b, p))
                    && same(where + " hand " + b + " " + p, x.hand(b, p), y.hand(b, p));
            }
        }
        return same;
    }

    private int bandOf(boolean real, int b, int what) {
        try {
            return real ? x.band(b, what) : y.band(b, what);
        } catch (NoSuchElementException e) {
            return Integer.MIN_VALUE;
        }
    }

    private int lawOf(boolean real, int l, int what) {
        try {
            return real ? x.law(l, what) : y.law(l, what);
        } catch (NoSuchElementException e) {
            return Integer.MIN_VALUE;
        }
    }
}
