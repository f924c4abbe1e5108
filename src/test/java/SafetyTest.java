import java.lang.management.ManagementFactory;
import java.lang.reflect.Array;
import java.lang.reflect.Field;
import java.lang.reflect.Method;
import java.lang.reflect.Modifier;
import java.util.ArrayDeque;
import java.util.Arrays;
import java.util.Comparator;
import java.util.Collections;
import java.util.IdentityHashMap;
import java.util.NoSuchElementException;
import java.util.Random;
import java.util.Set;

/** Whatever the arguments and the state, a call throws but what the document says; and a run makes little. */
public final class SafetyTest {
    private static final String FULL_SHORE =
        "band a 1 12;band b 3 12;band c 5 12;band d 7 12;band e 9 12;band f 2 5;tide 1;tide 2;tide 3;tide 4;tide 5;tide 6;"
        + "tide 0;tide 9;writer s 9;writer t 9;writer u 9;writer v 9;law l 123;law m 12;law n 234;law o 345;law p 45;law q 31;lapse 30;";

    public static void main(String[] args) throws Exception {
        wildCalls();
        smallObject();
        callsMakeNothing();
        dearestCalls();
        Check.finish();
    }

    private static Method[] face() {
        Method[] face = Arrays.stream(SandLetters.class.getDeclaredMethods())
            .filter(m -> Modifier.isPublic(m.getModifiers())).toArray(Method[]::new);
        Arrays.sort(face, Comparator.comparing(Method::getName));
        return face;
    }

    private static int wild(Random random) {
        int[] edges = {Integer.MIN_VALUE, Integer.MAX_VALUE, -1, 0, 1, 2, 3, 5, 6, 9, 10, 11, 12, 16, 17, 30, 31, 60, 61, 400};
        int kind = random.nextInt(8);
        return kind == 0 ? random.nextInt() : kind < 4 ? edges[random.nextInt(edges.length)] : random.nextInt(5);
    }

    private static void wildCalls() throws Exception {
        Method[] face = face();
        String[] texts = {FULL_SHORE, "band a 2 3;writer s 2;law l 12;", "", "bare or not(by s and holds l)", "s writes a 1 1;hour 5;tread a 1;",
            "band", "\0\1\2", "(((((((((((", "not not not not not not not not not bare", "s", "hour 999;", "999999999999999999999999"};
        for (int seed = 0; seed < 400; seed++) {
            Random random = new Random(seed);
            SandLetters x = new SandLetters();
            for (int i = 0; i < 512; i++) {
                if (random.nextInt(10) == 0) {
                    Check.put(x, texts[random.nextInt(texts.length)]);
                }
                wildCall(x, face[random.nextInt(face.length)], random);
            }
        }
    }

    private static void wildCall(SandLetters x, Method m, Random random) throws Exception {
        Object[] args = new Object[m.getParameterCount()];
        for (int k = 0; k < args.length; k++) {
            args[k] = wild(random);
        }
        String call = m.getName() + Arrays.toString(args);
        boolean mayThrow = m.getName().equals("band") || m.getName().equals("law");
        try {
            m.invoke(x, args);
        } catch (java.lang.reflect.InvocationTargetException e) {
            boolean asTold = mayThrow && e.getCause().getClass() == NoSuchElementException.class;
            Check.yes(call + " throws " + e.getCause(), asTold);
        }
    }

    private static void smallObject() throws Exception {
        Set<Object> seen = Collections.newSetFromMap(new IdentityHashMap<>());
        ArrayDeque<Object> open = new ArrayDeque<>();
        open.add(new SandLetters());
        long parts = 0;
        while (!open.isEmpty()) {
            Object o = open.remove();
            if (!seen.add(o)) {
                continue;
            }
            if (o.getClass().isArray()) {
                parts += Array.getLength(o);
                for (int i = 0; i < Array.getLength(o) && !o.getClass().getComponentType().isPrimitive(); i++) {
                    open.add(Array.get(o, i));
                }
                continue;
            }
            for (Field f : o.getClass().getDeclaredFields()) {
                if (!Modifier.isStatic(f.getModifiers())) {
                    parts++;
                    f.setAccessible(true);
                    if (!f.getType().isPrimitive()) {
                        open.add(f.get(o));
                    }
                }
            }
        }
        System.out.println("a new object: " + seen.size() + " objects and arrays, " + parts + " fields and elements");
        Check.yes("few objects", seen.size() < 400);
        Check.yes("few fields and elements", parts < 10000);
    }

    private static void callsMakeNothing() {
        var beans = (com.sun.management.ThreadMXBean) ManagementFactory.getThreadMXBean();
        SandLetters x = Check.made(FULL_SHORE);
        Check.sentence(x, "bare or full and not wet or signs>3");
        beans.getCurrentThreadAllocatedBytes();
        long sum = 0;
        long ahead = beans.getCurrentThreadAllocatedBytes();
        for (int i = 0; i < 15; i++) {
            sum += x.write(i % 4, i % 6, i % 5, i % 10) + x.tread(0, 1) + x.hours(1) + x.drawn(2, i) + x.odds(0, 30, i);
            sum += x.fits(1) + x.ask(1) + x.dry(1) + x.keep(1, 16) + x.mend(1) + x.room() + x.bears(1) + x.row(1);
            sum += x.said(-1) + x.now(3) + x.band(1, 4) + x.law(1, 3) + x.undo() + x.fullest() + x.book(1) + x.sentence();
            sum += (x.image(0) ? 1 : 0) + (x.restore(0) ? 1 : 0) + x.feed(1, 2, 3, 4, 5) + (x.end(0) ? 1 : 0);
        }
        long made = beans.getCurrentThreadAllocatedBytes() - ahead;
        System.out.println("375 calls made " + made + " bytes (sum " + sum + ")");
        Check.yes("calls make next to nothing", made < 20000);
    }

    private static void dearestCalls() {
        SandLetters x = Check.made(FULL_SHORE);
        long start = System.nanoTime();
        for (int i = 0; i < 500; i++) {
            x.odds(i % 6, 30, i);
        }
        Check.yes("500 odds are quick", System.nanoTime() - start < 60_000_000_000L);
        start = System.nanoTime();
        SandLetters y = Check.made("band a 1 5;band b 1 5;band c 1 5;band d 1 5;band e 1 5;band f 1 2;"
            + "law l 123;law m 124;law n 125;law o 126;law p 127;law q 128;");
        for (int i = 0; i < 500; i++) {
            Check.is("no room", y.room(), -1);
        }
        Check.yes("500 rooms are quick", System.nanoTime() - start < 60_000_000_000L);
    }
}
