import java.lang.management.ManagementFactory;
import java.lang.reflect.Field;
import java.lang.reflect.Member;
import java.lang.reflect.Method;
import java.lang.reflect.Modifier;
import java.nio.file.Files;
import java.nio.file.Path;
import java.util.Arrays;
import java.util.Set;
import java.util.TreeSet;

/** The face of the class, and those rules of ../shared/LANGUAGE.md that a program can look at. */
public final class RuleTest {
    private static final String[] FACE = {
        "int fighter(int,int,int,int,int,int)", "int about(int,int)", "int tune(int,int,int)",
        "int side(int,int,int,int)", "int at(int,int)", "int laws(int,int,int)", "int slots()",
        "long all()", "long ways(int)", "int chance()", "long left(int,int,int,int)",
        "int states()", "long ends(int)", "int better(int,int)", "int without(int)",
        "int surprised(int)", "int fight(int,int,int)", "int rest()", "int purse(int,int)",
        "int day()", "int use()", "int odds(int,int)", "int wish(int,int)", "int band(int)",
        "int play(int)", "int played(int)", "int sheet(int,int,int)", "int lose(int)",
        "int put(int,int,int,int)", "int get(int,int,int)", "int copy(int,int,int,int,int)",
        "int shake(int,int)", "int count(int)", "long digest()"
    };
    private static final String[] BANNED = {
        "\\bthrow\\b", "\\bthrows\\b", "\\btry\\b", "\\bcatch\\b", "\\bfinally\\b",
        "\\bsynchronized\\b", "\\bassert\\b", "\\bimport\\b", "\\bpackage\\b", "->", "::",
        "\\bprotected\\b", "\\bvar\\b", "\\binstanceof\\b", "\\bObject\\b", "\\bSystem\\.(?!arraycopy)",
        "Exact\\(", "\\bRandom\\b", "\\bThread\\b", "@"
    };
    /** What a run of 512 calls may make, in bytes: next to nothing. */
    private static final long MOST_BYTES = 100_000;

    private static int wrong = 0;
    private static int seen = 0;

    private static void hold(boolean holds, String what) {
        seen++;
        if (!holds) {
            wrong++;
            System.out.println("does not hold: " + what);
        }
    }

    private static String told(Method m) {
        StringBuilder text = new StringBuilder(m.getReturnType().getName() + " " + m.getName() + "(");
        for (Class<?> type : m.getParameterTypes()) {
            text.append(text.charAt(text.length() - 1) == '(' ? "" : ",").append(type.getName());
        }
        return text.append(")").toString();
    }

    private static boolean isPrivate(Member m) {
        return Modifier.isPrivate(m.getModifiers());
    }

    private static void face() {
        Set<String> face = new TreeSet<>(Arrays.asList(FACE));
        Set<String> names = new TreeSet<>();
        for (String call : FACE) {
            names.add(call.substring(call.indexOf(' ') + 1, call.indexOf('(')));
        }
        Set<String> open = new TreeSet<>();
        hold(Modifier.isPublic(FairFight.class.getModifiers()), "the class is public");
        hold(Modifier.isFinal(FairFight.class.getModifiers()), "the class is final");
        hold(FairFight.class.getDeclaredConstructors().length == 1
            && FairFight.class.getConstructors().length == 1, "one constructor, public");
        for (Method m : FairFight.class.getDeclaredMethods()) {
            if (isPrivate(m)) {
                hold(!names.contains(m.getName()), "private with a public name: " + m);
            } else {
                hold(Modifier.isPublic(m.getModifiers()), "public or private: " + m);
                hold(!Modifier.isStatic(m.getModifiers()), "no static: " + m);
                open.add(told(m));
            }
        }
        hold(open.equals(face), "the methods of the face: " + open);
        Set<String> constants = new TreeSet<>();
        for (Field f : FairFight.class.getDeclaredFields()) {
            if (!isPrivate(f)) {
                constants.add(f.getName());
            }
        }
        hold(constants.equals(new TreeSet<>(Arrays.asList("NONE", "BAD", "NOT", "FULL", "WIDE"))),
            "the constants of the face: " + constants);
        hold(FairFight.class.getDeclaredClasses().length <= 12, "some twelve classes");
        for (Class<?> inside : FairFight.class.getDeclaredClasses()) {
            hold(Modifier.isStatic(inside.getModifiers()), "static: " + inside);
            for (Method m : inside.getDeclaredMethods()) {
                hold(!names.contains(m.getName()), "inside with a public name: " + m);
                hold(m.getParameterCount() <= 7, "seven parameters: " + m);
            }
        }
    }

    private static void statics() {
        for (Class<?> inside : FairFight.class.getDeclaredClasses()) {
            fieldsOf(inside);
        }
        fieldsOf(FairFight.class);
    }

    private static void fieldsOf(Class<?> type) {
        int fields = 0;
        for (Field f : type.getDeclaredFields()) {
            if (Modifier.isStatic(f.getModifiers())) {
                hold(Modifier.isFinal(f.getModifiers()), "a constant: " + f);
            } else {
                fields++;
            }
        }
        hold(fields <= 20, "some twenty fields: " + type);
    }

    private static void source() throws Exception {
        String text = Files.readString(Path.of("src/main/java/FairFight.java"));
        String code = text.replaceAll("(?s)/\\*.*?\\*/", "").replaceAll("//[^\n]*", "");
        for (String banned : BANNED) {
            hold(!java.util.regex.Pattern.compile(banned).matcher(code).find(), "none of " + banned);
        }
        for (char c : text.toCharArray()) {
            if (c > 126) {
                hold(false, "a sign that is not plain: " + (int) c);
            }
        }
    }

    /** The dearest calls, as often as they may be called. */
    private static int run() {
        FairFight x = new FairFight();
        for (int i = 0; i < 6; i++) {
            x.fighter(0, 12 - i, 3, 3, i % 3, i);
        }
        x.side(0, 0, 1, 2);
        x.side(1, 3, 4, NONE_THERE);
        x.fight(3, NONE_THERE, NONE_THERE);
        x.fight(4, 5, NONE_THERE);
        int sum = 0;
        for (int i = 0; i < 100; i++) {
            sum += x.wish(0, 1000000) + x.day() + x.better(0, 1) + x.sheet(i % 4, 2, 60)
                + x.play(i % 4);
        }
        return sum;
    }

    private static final int NONE_THERE = -1;

    /** All calls of a run live in one room, so a call makes no objects at all. */
    private static void room() {
        if (!(ManagementFactory.getThreadMXBean() instanceof com.sun.management.ThreadMXBean)) {
            return;
        }
        com.sun.management.ThreadMXBean threads =
            (com.sun.management.ThreadMXBean) ManagementFactory.getThreadMXBean();
        long self = Thread.currentThread().getId();
        int sum = run();
        long before = threads.getThreadAllocatedBytes(self);
        sum -= run();
        long made = threads.getThreadAllocatedBytes(self) - before;
        hold(sum == 0, "the same calls give the same answers");
        hold(made < MOST_BYTES, "a run makes little: " + made + " bytes");
    }

    public static void main(String[] args) throws Exception {
        face();
        statics();
        source();
        room();
        System.out.println(wrong == 0 ? "all " + seen + " rules hold" : wrong + " rules do not hold");
        if (wrong != 0) {
            System.exit(1);
        }
    }
}
