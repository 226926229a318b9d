import java.lang.reflect.Method;
import java.lang.reflect.Modifier;
import java.util.Arrays;
import java.util.Comparator;
import java.util.function.IntPredicate;

/** What the tests share: the count of wrong answers, a few towns, and how a text is fed. */
abstract class Towns {
    static final int LEAST = Integer.MIN_VALUE;
    static final int GREATEST = Integer.MAX_VALUE;

    static int wrong = 0;
    /** What is being tested, for the lines that tell of a wrong answer. */
    static String about = "";

    static void due(String call, long got, long want) {
        if (got != want) {
            wrong++;
            System.out.println(about + ": " + call + " answered " + got + ", due is " + want);
        }
    }

    static void due(String call, boolean got, boolean want) {
        due(call, got ? 1 : 0, want ? 1 : 0);
    }

    /** The first and the last value that are allowed, those beside them that aren't, and the farthest. */
    static void range(String what, int low, int high, IntPredicate allowed) {
        for (int v : new int[] {low, high}) {
            due(what + " " + v, allowed.test(v), true);
        }
        for (int v : new int[] {low - 1, high + 1, LEAST, GREATEST}) {
            due(what + " " + v, allowed.test(v), false);
        }
    }

    /** No value at all is allowed, neither those around 0 nor the farthest. */
    static void never(String what, IntPredicate allowed) {
        for (int v : new int[] {LEAST, -2, -1, 0, 1, GREATEST}) {
            due(what + " " + v, allowed.test(v), false);
        }
    }

    /** Runs every test of a class: its own static methods without parameters. None can be forgotten. */
    static void runAll(Class<?> tests, int atLeast) throws ReflectiveOperationException {
        Method[] all = tests.getDeclaredMethods();
        Arrays.sort(all, Comparator.comparing(Method::getName));
        int count = 0;
        for (Method test : all) {
            boolean isTest = test.getParameterCount() == 0 && test.getReturnType() == void.class && !test.isSynthetic();
            if (isTest && Modifier.isStatic(test.getModifiers())) {
                about = test.getName();
                test.setAccessible(true);
                test.invoke(null);
                count++;
            }
        }
        due("at least " + atLeast + " tests", count >= atLeast, true);
    }

    static void endOfTest(String fine) {
        System.out.println(wrong == 0 ? fine : wrong + " answers are not as due");
        if (wrong != 0) {
            System.exit(1);
        }
    }

    // ---- towns

    /**
     * <pre>
     *         4 --- 5        direction 0 is up, 1 to the right
     *         :     |        1 : 4 is a lane
     *   0 --- 1 --- 2 --- 3  2 is a church (1), 3 a chapel (2), 5 a well (3)
     * </pre>
     */
    static SecondLeft village() {
        SecondLeft x = new SecondLeft();
        for (int sight : new int[] {0, 0, 1, 2, 0, 3}) {
            x.corner(sight);
        }
        x.street(0, 1, 1, false);
        x.street(1, 1, 2, false);
        x.street(2, 1, 3, false);
        x.street(1, 0, 4, true);
        x.street(2, 0, 5, false);
        x.street(4, 1, 5, false);
        return x;
    }

    /** The village with a teller at 0 (swap 2, leave 3, mix 4) and these tellings of it, all facing 1. */
    static SecondLeft told(int... tellings) {
        SecondLeft x = village();
        x.teller(0, 2, 3, 4);
        for (int t : tellings) {
            x.telling(0, 1, t, 0);
        }
        return x;
    }

    /** So many corners without a street. */
    static SecondLeft corners(int count) {
        SecondLeft x = new SecondLeft();
        for (int i = 0; i < count; i++) {
            x.corner(0);
        }
        return x;
    }

    /** A row of so many corners in direction 1. */
    static SecondLeft row(int count) {
        return rowOf(new int[count]);
    }

    /** A row of corners with these sights in direction 1. */
    static SecondLeft rowOf(int... sights) {
        SecondLeft x = new SecondLeft();
        for (int sight : sights) {
            x.corner(sight);
        }
        for (int i = 0; i + 1 < sights.length; i++) {
            x.street(i, 1, i + 1, false);
        }
        return x;
    }

    /** A ring of so many corners in direction 1, and one more corner in direction 0 of the first. */
    static SecondLeft ring(int count) {
        return lasso(count, 1);
    }

    /** A ring of so many corners in direction 1, and a row of others that goes off in direction 0 from the first. */
    static SecondLeft lasso(int around, int off) {
        SecondLeft x = corners(around + off);
        for (int i = 0; i < around; i++) {
            x.street(i, 1, (i + 1) % around, false);
        }
        for (int i = 0; i < off; i++) {
            x.street(i == 0 ? 0 : around + i - 1, 0, around + i, false);
        }
        return x;
    }

    /**
     * 0, 1, 2 in a row; up (3) and down (4) of 1 by lanes, up (5) and down (6) of 2 by streets there are
     * churches, and behind some of them (bits) chapels. First left, then on to the church: each way leads
     * elsewhere, if it leads anywhere.
     */
    static SecondLeft branches(int slip, int chapels) {
        SecondLeft x = row(3);
        for (int i = 0; i < 4; i++) {
            x.corner(1);
            x.street(1 + i / 2, 2 * (i % 2), 3 + i, i < 2);
        }
        for (int i = 0; i < 4; i++) {
            if ((chapels >> i & 1) == 1) {
                x.street(3 + i, 2 * (i % 2), x.corner(2), false);
            }
        }
        x.teller(0, slip, slip, slip);
        x.telling(0, 1, 101311, 0);
        x.start(0, 1);
        return x;
    }

    /** From 0 up to 1; left of it is 2, right of it 3. The teller at 0 says left and swaps so often. */
    static SecondLeft cross(int swap) {
        SecondLeft x = crossFrom(0);
        x.teller(0, swap, 0, 0);
        x.telling(0, 0, 101, 0);
        return x;
    }

    /** From 0 in a direction to 1; left of it is 2, right of it 3. */
    static SecondLeft crossFrom(int direction) {
        SecondLeft x = corners(4);
        x.street(0, direction, 1, false);
        x.street(1, (direction + 3) % 4, 2, false);
        x.street(1, (direction + 1) % 4, 3, false);
        return x;
    }

    /** One teller who never slips stands at a corner and says one telling. */
    static SecondLeft saying(SecondLeft x, int corner, int facing, int turns) {
        x.telling(x.teller(corner, 0, 0, 0), facing, turns, 0);
        return x;
    }

    // ---- texts

    /** The text comes behind the tape. */
    static void put(SecondLeft x, String text) {
        int from = x.about(8);
        for (int i = 0; i < text.length(); i += 20) {
            int[] v = new int[5];
            for (int k = 0; k < 20; k++) {
                v[k / 4] = v[k / 4] << 8 | (i + k < text.length() ? text.charAt(i + k) : 0);
            }
            x.feed(v[0], v[1], v[2], v[3], v[4]);
        }
        x.end(from + text.length());
    }

    static int read(SecondLeft x, String text) {
        x.end(0);
        put(x, text);
        return x.text();
    }

    static SecondLeft ruled(SecondLeft x, String text) {
        due("'" + text + "' rules", x.by(Math.max(0, read(x, text))) && x.fault(0) == 0, true);
        return x;
    }

    /** The text is one, without a fault. */
    static void fine(String text) {
        SecondLeft x = new SecondLeft();
        due("text '" + text + "'", read(x, text), 0);
        due("fault of '" + text + "'", x.fault(0), 0);
        due("place of '" + text + "'", x.fault(1), -1);
        due("texts with '" + text + "'", x.about(5), 1);
    }

    /** The text has that fault at that place, and is none. */
    static void faultOf(String text, int what, int place) {
        SecondLeft x = new SecondLeft();
        due("text '" + text + "'", read(x, text), -1);
        due("fault of '" + text + "'", x.fault(0), what);
        due("place of '" + text + "'", x.fault(1), place);
        due("texts without '" + text + "'", x.about(5), 0);
    }

    /** What a sum is, as far as it is a pace. */
    static void paceOf(String sum, int due) {
        SecondLeft x = row(2);
        // With a fault none would rule, and the pace would be 10.
        due("text of " + sum, read(x, "pace " + sum + ";"), 0);
        x.by(0);
        due("pace " + sum, x.far(0, 1), due);
    }
}
