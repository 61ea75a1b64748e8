import java.lang.reflect.InvocationTargetException;
import java.lang.reflect.Method;
import java.lang.reflect.Modifier;
import java.util.Arrays;
import java.util.Comparator;

/**
 * What the tests of the promises share. A class of tests extends this one, and hands itself to runAll:
 * each of its static methods without parameters that is not private is a test, told by its name.
 */
abstract class Checks {
    static final int NONE = -1;
    static final int FAR = -1000000000;
    static final int LEAST = Integer.MIN_VALUE;
    static final int MOST = Integer.MAX_VALUE;

    private static String test = "";
    private static int wrong = 0;

    static void runAll(Class<?> tests) {
        Method[] methods = tests.getDeclaredMethods();
        Arrays.sort(methods, Comparator.comparing(Method::getName));
        int ran = 0;
        for (Method method : methods) {
            int is = method.getModifiers();
            if (Modifier.isStatic(is) && !Modifier.isPrivate(is) && method.getParameterCount() == 0) {
                test = tests.getName() + "." + method.getName();
                run(method);
                ran++;
            }
        }
        System.out.println(ran + " tests, " + wrong + " answers that are not as due");
        if (wrong != 0 || ran == 0) {
            System.exit(1);
        }
    }

    private static void run(Method method) {
        try {
            method.invoke(null);
        } catch (InvocationTargetException e) {
            wrong++;
            System.out.println(test + ": threw " + e.getCause());
        } catch (IllegalAccessException e) {
            wrong++;
            System.out.println(test + ": can't be run");
        }
    }

    static void due(String what, int got, int want) {
        if (got != want) {
            wrong++;
            System.out.println(test + ": " + what + " answered " + got + ", due is " + want);
        }
    }

    static void none(String what, int got) {
        due(what, got, NONE);
    }

    static void yes(String what, boolean got) {
        due(what, got ? 1 : 0, 1);
    }

    static void no(String what, boolean got) {
        due(what, got ? 1 : 0, 0);
    }

    static void same(String what, String got, String want) {
        if (!got.equals(want)) {
            wrong++;
            System.out.println(test + ": " + what + "\n answered " + got + "\n due is   " + want);
        }
    }

    /** Brings the text behind the tape, and ends the tape with it. */
    static void put(HoldSlips x, int before, String text) {
        for (int at = 0; at < text.length(); at += 20) {
            int[] n = new int[5];
            for (int i = 0; i < 20; i++) {
                n[i / 4] = n[i / 4] << 8 | (at + i < text.length() ? text.charAt(at + i) & 255 : 0);
            }
            x.feed(n[0], n[1], n[2], n[3], n[4]);
        }
        due("end of '" + text + "'", x.end(before + text.length()), before + text.length());
    }

    static void put(HoldSlips x, String text) {
        put(x, 0, text);
    }

    static int decree(HoldSlips x, String text) {
        put(x, text);
        return x.decree();
    }

    /** A new object with citizens of the ranks 0, 1, .. (1 is a widow), of one share each, and h slips given. */
    static HoldSlips ship(int citizens, int h) {
        HoldSlips x = new HoldSlips();
        for (int i = 0; i < citizens; i++) {
            x.citizen(i, i == 1);
        }
        decree(x, "share 1;");
        yes("give(" + h + ")", x.give(h));
        return x;
    }

    static void passYear(HoldSlips x, boolean lost) {
        int next = x.count(4) + 1;
        yes("sail", x.sail());
        due("ends(" + lost + ")", x.ends(lost), next);
    }

    /** All answers about what there is, in some hundred calls. */
    static String picture(HoldSlips x) {
        StringBuilder s = new StringBuilder();
        for (int what = 0; what <= 9; what++) {
            s.append(x.count(what)).append(what < 9 ? " " : " | ");
        }
        for (int i = 0; i < x.count(0); i++) {
            for (int what = 0; what <= 7; what++) {
                s.append(x.tell(i, what)).append(what < 7 ? " " : " | ");
            }
        }
        for (int i = 0; i < x.count(1); i++) {
            for (int what = 0; what <= 8; what++) {
                s.append(x.about(i, what)).append(' ');
            }
            s.append(x.bestSide(i)).append(" | ");
        }
        for (int year = 0; year < Math.min(3, x.count(4)); year++) {
            for (int what = 0; what <= 8; what++) {
                s.append(x.book(year, what)).append(what < 8 ? " " : " | ");
            }
        }
        return s.append(x.fault(0)).append(' ').append(x.fault(1)).toString();
    }

    /** For calls that are refused: all is as it was when the picture was made. */
    static void unchanged(HoldSlips x, String before) {
        same("what is told after refused calls", picture(x), before);
    }
}
