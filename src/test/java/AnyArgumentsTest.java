import java.lang.reflect.InvocationTargetException;
import java.lang.reflect.Method;
import java.lang.reflect.Modifier;
import java.util.Random;

/** No call may throw, for any arguments in any state; what is refused or only asked changes nothing else. */
public final class AnyArgumentsTest {
    private static final int[] EDGES = {Integer.MIN_VALUE, Integer.MIN_VALUE + 1, -1600, -2, -1, 0, 1, 2, 4, 5, 6, 16, 20, 21,
        23, 24, 31, 40, 41, 60, 61, 63, 64, 100, 101, 1600, 9999, Integer.MAX_VALUE - 1, Integer.MAX_VALUE};
    private static final String[] TOWNS = {
        "",
        "corner a;",
        "thing a weigh 1 lasts 1;",
        "thing a weigh 1 lasts 1;corner c;palm c has a;doing d at c hour 1;gone all;says 9999*9999*9999/minute%held;pass 100;",
        "thing a weigh 99 lasts 99;thing b weigh 0 lasts 1;thing f weigh 7 lasts 5;thing g weigh 8 lasts 6;thing h weigh 9 lasts 7;"
            + "thing i weigh 10 lasts 8;corner ca;corner cb;corner cc;corner cd;corner ce;road ca to cb steps 1;road cb to cc steps 30;"
            + "road cc to cd steps 2;road cd to ce steps 3;road ce to ca steps 4;palm ca has a;palm ce has i;doing da at ca hour 23;"
            + "doing db at cb hour 0;doing dc at cc hour 3;doing dd at cd hour 4;doing de at ce hour 5;doing df at ca hour 6;"
            + "says min(23,max(0,if(empty=1 or held>3,minute/corner,weigh%corner-held)));gone not [held<lasts and minute%5<4];pass 50;"};

    private AnyArgumentsTest() {
    }

    private static long call(PalmHours x, Method method, int[] arguments) {
        Object[] boxed = new Object[arguments.length];
        for (int k = 0; k < boxed.length; k++) {
            boxed[k] = arguments[k];
        }
        try {
            Object answer = method.invoke(x, boxed);
            return answer instanceof Boolean b ? (b ? 1 : 0) : ((Number) answer).longValue();
        } catch (InvocationTargetException e) {
            Check.due(method.getName() + java.util.Arrays.toString(arguments) + " threw " + e.getCause(), 0, 1);
        } catch (IllegalAccessException e) {
            Check.due(method.getName() + " is not public", 0, 1);
        }
        return PalmHours.NONE;
    }

    private static boolean isFace(Method method) {
        return Modifier.isPublic(method.getModifiers()) && method.getDeclaringClass() == PalmHours.class;
    }

    private static void run(long seed) {
        Random random = new Random(seed);
        PalmHours x = Check.made(TOWNS[random.nextInt(TOWNS.length)]);
        Method[] methods = PalmHours.class.getDeclaredMethods();
        java.util.Arrays.sort(methods, (a, b) -> a.getName().compareTo(b.getName()));
        for (int k = 0; k < 512; k++) {
            Method method = methods[random.nextInt(methods.length)];
            if (!isFace(method)) {
                continue;
            }
            int[] arguments = new int[method.getParameterCount()];
            for (int j = 0; j < arguments.length; j++) {
                arguments[j] = random.nextInt(4) == 0 ? random.nextInt() : EDGES[random.nextInt(EDGES.length)];
            }
            call(x, method, arguments);
        }
        Check.due("has(9), 20 at most", x.has(9) >= 0 && x.has(9) <= 20 ? 1 : 0, 1);
        Check.due("has(4), 9999 at most", x.has(4) >= 0 && x.has(4) <= 9999 ? 1 : 0, 1);
    }

    /** The longest texts: many parts, and each ( [ not that may be open. */
    private static void longTexts() {
        StringBuilder parts = new StringBuilder("says 1");
        while (parts.length() < 1590) {
            parts.append("+1");
        }
        PalmHours x = new PalmHours();
        Check.due("a long SUM", Check.town(x, parts + ";"), 1);
        String town = "thing t weigh 1 lasts 9;corner c;palm c has t;gone ";
        String open = "1=2 or all and 20=10+10*if(";
        String last = "1=2 or all and 20=10+10*1";
        Check.due("eight levels", Check.town(x, town + open.repeat(8) + last + ",1,0)".repeat(8) + ";"), PalmHours.NONE);
        Check.due("eight levels", x.fault(0), 5);
        Check.due("eight levels", x.fault(1), town.length() + 8 * open.length() - 1);
        Check.due("seven levels", Check.town(x, town + open.repeat(7) + last + ",1,0)".repeat(7) + ";"), 4);
        x.minutes(1);
        Check.due("all of them hold", x.corner(0, 0), PalmHours.NONE);
    }

    public static void main(String[] args) {
        for (long seed = 1; seed <= 400; seed++) {
            run(seed);
        }
        longTexts();
        Check.close();
    }
}
