import java.nio.charset.StandardCharsets;
import java.util.NoSuchElementException;

/** Counts answers that are due and tells those that are not. */
final class Check {
    private static int passed = 0;
    private static int failed = 0;

    private Check() {
    }

    static void is(String call, long got, long due) {
        if (got == due) {
            passed++;
        } else {
            failed++;
            System.out.println(call + " answered " + got + ", due is " + due);
        }
    }

    static void yes(String call, boolean got) {
        is(call, got ? 1 : 0, 1);
    }

    static void no(String call, boolean got) {
        is(call, got ? 1 : 0, 0);
    }

    static void bandThrows(SandLetters x, int b, int what) {
        boolean thrown = false;
        try {
            x.band(b, what);
        } catch (NoSuchElementException e) {
            thrown = true;
        }
        yes("band(" + b + ", " + what + ") throws", thrown);
    }

    static void lawThrows(SandLetters x, int l, int what) {
        boolean thrown = false;
        try {
            x.law(l, what);
        } catch (NoSuchElementException e) {
            thrown = true;
        }
        yes("law(" + l + ", " + what + ") throws", thrown);
    }

    /** Puts a text on the tape behind what is there; a text too long for the tape is cut. */
    static void put(SandLetters x, String text) {
        byte[] bytes = text.getBytes(StandardCharsets.ISO_8859_1);
        int had = x.count(5);
        for (int i = 0; i < bytes.length; i += 20) {
            int[] n = new int[5];
            for (int k = 0; k < 20; k++) {
                int value = i + k < bytes.length ? bytes[i + k] & 255 : 0;
                n[k / 4] |= value << 24 - 8 * (k % 4);
            }
            x.feed(n[0], n[1], n[2], n[3], n[4]);
        }
        x.end(Math.min(had + bytes.length, 940));
    }

    static int shore(SandLetters x, String text) {
        put(x, text);
        return x.shore();
    }

    static int book(SandLetters x, String text, int lives) {
        put(x, text);
        return x.book(lives);
    }

    static int sentence(SandLetters x, String text) {
        put(x, text);
        return x.sentence();
    }

    static SandLetters made(String shore) {
        SandLetters x = new SandLetters();
        int lines = shore(x, shore);
        yes("the shore '" + shore + "' is taken", lines >= 0);
        return x;
    }

    static String row(SandLetters x, int b) {
        int n = x.row(b);
        StringBuilder s = new StringBuilder();
        for (int i = 0; i < n; i++) {
            s.append((char) x.byteAt(i));
        }
        return s.toString();
    }

    static void rowIs(SandLetters x, int b, String due) {
        String got = row(x, b);
        if (!got.equals(due)) {
            System.out.println("row " + b + " is '" + got + "', due is '" + due + "'");
        }
        yes("row " + b + " as due", got.equals(due));
    }

    static void writeAll(SandLetters x, int w, int b, int place, String digits) {
        for (int i = 0; i < digits.length(); i++) {
            is("write " + digits + " sign " + i, x.write(w, b, place + i, digits.charAt(i) - '0'), 0);
        }
    }

    static void finish() {
        System.out.println(passed + " passed, " + failed + " failed");
        if (failed != 0) {
            System.exit(1);
        }
    }
}
