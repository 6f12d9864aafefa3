import java.lang.management.ManagementFactory;
import java.lang.reflect.InvocationTargetException;
import java.lang.reflect.Method;
import java.lang.reflect.Modifier;
import java.util.ArrayList;
import java.util.List;
import java.util.NoSuchElementException;
import java.util.Random;

/** Any arguments in any state: nothing but NoSuchElementException is thrown, by three calls alone; nothing is made. */
public final class WildCallsTest {
    private static final int[] WILD = {Integer.MIN_VALUE, Integer.MIN_VALUE + 1, -65536, -37, -2, -1, 0, 1, 2, 3, 4, 5,
        6, 7, 8, 9, 12, 13, 35, 36, 37, 40, 41, 60, 61, 99, 100, 65536, Integer.MAX_VALUE - 1, Integer.MAX_VALUE};
    private static final String SIGNS = "0123456.hbw;krowni+-*/<>=()nlbgd";

    private static void fail(String why) {
        System.out.println(why);
        System.exit(1);
    }

    private static List<Method> face() {
        List<Method> all = new ArrayList<>();
        for (Method m : BuriedWithIt.class.getDeclaredMethods()) {
            if (Modifier.isPublic(m.getModifiers())) {
                all.add(m);
            }
        }
        all.sort((a, b) -> a.getName().compareTo(b.getName()));
        return all;
    }

    private static void call(BuriedWithIt x, Method m, Random random) throws IllegalAccessException {
        Object[] arguments = new Object[m.getParameterCount()];
        for (int i = 0; i < arguments.length; i++) {
            int wild = WILD[random.nextInt(WILD.length)];
            arguments[i] = random.nextInt(3) == 0 ? wild : random.nextInt(7);
            if (m.getName().equals("sign")) {
                int four = 0;
                for (int s = 0; s < 4; s++) {
                    four = four << 8 | SIGNS.charAt(random.nextInt(SIGNS.length()));
                }
                arguments[i] = four;
            }
        }
        try {
            m.invoke(x, arguments);
        } catch (InvocationTargetException e) {
            boolean may = List.of("field", "goer", "row").contains(m.getName());
            if (!may || e.getCause().getClass() != NoSuchElementException.class) {
                fail(m.getName() + List.of(arguments) + " threw " + e.getCause());
            }
        }
    }

    private static void wildRun(long seed, List<Method> face) throws IllegalAccessException {
        Random random = new Random(seed);
        BuriedWithIt x = seed % 5 == 0 ? new BuriedWithIt() : Checks.made("44.h.b...w..h.....", "0033h;3300;1221bw");
        for (int i = 0; i < 600; i++) {
            Method m = face.get(random.nextInt(face.size()));
            boolean starts = m.getName().equals("land") || m.getName().equals("goers");
            if (!starts || random.nextInt(4) == 0) {
                call(x, m, random);
            }
        }
    }

    /** The dearest calls again and again: they use the rows that the constructor made. */
    private static void makesNothing() {
        com.sun.management.ThreadMXBean threads = (com.sun.management.ThreadMXBean) ManagementFactory.getThreadMXBean();
        BuriedWithIt x = Checks.made("66" + ".h....".repeat(6), "0055;5500;0550h;5005;3300;0033b");
        long id = Thread.currentThread().getId();
        for (int round = 0; round < 2; round++) {
            long before = threads.getThreadAllocatedBytes(id);
            for (int i = 0; i < 20; i++) {
                x.lock(i % 8);
                x.claims(1);
                x.alters(0);
                x.years(i, 40);
                x.frees();
                x.gate();
                x.cut(0);
                x.vital(1);
                x.nights(1);
                x.keep(0);
                x.again(0);
                x.sign(0x72000000);
                x.end(1);
                x.law();
            }
            long made = threads.getThreadAllocatedBytes(id) - before;
            if (round == 1 && made > 4096) {
                fail("280 calls made " + made + " bytes");
            }
        }
    }

    public static void main(String[] args) throws IllegalAccessException {
        List<Method> face = face();
        for (long seed = 1; seed <= 300; seed++) {
            wildRun(seed, face);
        }
        makesNothing();
        System.out.println("300 wild runs went well");
    }
}
