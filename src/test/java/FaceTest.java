import java.lang.reflect.Constructor;
import java.lang.reflect.Field;
import java.lang.reflect.Method;
import java.lang.reflect.Modifier;
import java.nio.file.Files;
import java.nio.file.Path;
import java.util.Arrays;
import java.util.Set;
import java.util.TreeSet;
import java.util.regex.Matcher;
import java.util.regex.Pattern;

/** The public face of the document, and what LANGUAGE.md rules out and a search can see. */
public final class FaceTest {
    private static final Path SOURCE = Path.of("src/main/java/HoldSlips.java");
    private static int wrong = 0;

    public static void main(String[] args) throws Exception {
        members();
        String code = withoutComments(Files.readString(SOURCE));
        for (String banned : new String[] {"throw", "throws", "try", "catch", "synchronized", "assert", "package",
            "import", "protected", "hashCode", "toString", "Object", "Random", "Thread", "System\\.(?!arraycopy)",
            "->", "::", "\\w+Exact"}) {
            Matcher m = Pattern.compile(banned.matches("\\w+") ? "\\b" + banned + "\\b" : banned).matcher(code);
            check(!m.find(), "the source has " + banned);
        }
        check(code.split("\\bclass\\s").length - 1 <= 12, "more than twelve classes");
        System.out.println(wrong == 0 ? "the face is as due" : wrong + " faults of the face");
        if (wrong != 0) {
            System.exit(1);
        }
    }

    private static void members() throws Exception {
        Class<?> c = HoldSlips.class;
        check(Modifier.isPublic(c.getModifiers()) && Modifier.isFinal(c.getModifiers()), "not public and final");
        Set<String> due = new TreeSet<>(Arrays.asList(
            "int feed(int,int,int,int,int)", "int end(int)", "int decree()", "int fault(int)",
            "int citizen(int,boolean)", "boolean rule(int,int)", "boolean give(int)",
            "boolean sell(int,int,int,int)", "int bale(int,int,int,int)", "boolean press(int,int)",
            "boolean lade(int,int,int)", "boolean unlade(int)", "int best()", "int bestSide(int)", "int ladeBest()",
            "boolean sail()", "int board(int,int,int,int)", "int loan(int,int,int,int)", "int ends(boolean)",
            "int tell(int,int)", "int about(int,int)", "int book(int,int)", "int count(int)", "boolean image(int)",
            "boolean again(int)"));
        Set<String> names = new TreeSet<>();
        Set<String> got = new TreeSet<>();
        for (Method m : c.getDeclaredMethods()) {
            if (Modifier.isPublic(m.getModifiers())) {
                got.add(m.getReturnType().getName() + " " + m.getName() + parameters(m.getParameterTypes()));
                names.add(m.getName());
            }
        }
        check(got.equals(due), "public methods are " + got);
        for (Method m : c.getDeclaredMethods()) {
            check(Modifier.isPublic(m.getModifiers()) || Modifier.isPrivate(m.getModifiers()) && !names.contains(m.getName()),
                "method " + m);
        }
        for (Field f : c.getDeclaredFields()) {
            check(Modifier.isPrivate(f.getModifiers()) || f.getName().equals("NONE"), "field " + f);
        }
        Field none = c.getDeclaredField("NONE");
        check(none.getModifiers() == (Modifier.PUBLIC | Modifier.STATIC | Modifier.FINAL), "NONE is " + none);
        Constructor<?>[] made = c.getDeclaredConstructors();
        check(made.length == 1 && Modifier.isPublic(made[0].getModifiers()) && made[0].getParameterCount() == 0,
            "constructors");
        for (Class<?> inside : c.getDeclaredClasses()) {
            check(Modifier.isStatic(inside.getModifiers()) && Modifier.isPrivate(inside.getModifiers()), "" + inside);
            // So no constructor can hand a part of the object that it makes to another one.
            check(inside.getDeclaredConstructors()[0].getParameterCount() == 0, "a constructor's parameter, " + inside);
            for (Method m : inside.getDeclaredMethods()) {
                check(!names.contains(m.getName()) && m.getParameterCount() <= 7, "method " + m);
            }
        }
    }

    private static String parameters(Class<?>[] types) {
        StringBuilder s = new StringBuilder("(");
        for (Class<?> t : types) {
            s.append(s.length() > 1 ? "," : "").append(t.getName());
        }
        return s.append(")").toString();
    }

    private static String withoutComments(String source) {
        return source.replaceAll("(?s)/\\*.*?\\*/", " ").replaceAll("//[^\n]*", " ");
    }

    private static void check(boolean holds, String otherwise) {
        if (!holds) {
            wrong++;
            System.out.println(otherwise);
        }
    }
}
