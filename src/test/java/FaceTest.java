import java.lang.reflect.Constructor;
import java.lang.reflect.Field;
import java.lang.reflect.Member;
import java.lang.reflect.Method;
import java.lang.reflect.Modifier;
import java.util.ArrayList;
import java.util.Arrays;
import java.util.List;
import java.util.Set;
import java.util.TreeSet;

/** The public face of the document, member by member, and nothing beside it (LANGUAGE.md, rule 1). */
public final class FaceTest {
    private static final String[] FACE = {
        "int addChair(int,int,int,boolean) IndexOutOfBoundsException,IllegalArgumentException,IllegalStateException",
        "int addTeam(int,int) IndexOutOfBoundsException,IllegalArgumentException,IllegalStateException",
        "int setWay(int,int) IndexOutOfBoundsException,IllegalArgumentException",
        "int setCold(int,int) IndexOutOfBoundsException,IllegalArgumentException,IllegalStateException",
        "int callOff(int) IndexOutOfBoundsException",
        "int pass(int) IllegalArgumentException,IllegalStateException",
        "int tell() ",
        "int chair(int,int) IndexOutOfBoundsException,IllegalArgumentException",
        "int team(int,int) IndexOutOfBoundsException,IllegalArgumentException",
        "int value(int) IllegalArgumentException",
        "int way(int,int) IndexOutOfBoundsException",
        "int work(int,int) IndexOutOfBoundsException",
        "int journal(int) IndexOutOfBoundsException",
        "int minuteOf(int) IndexOutOfBoundsException",
        "int minutesToAll() ",
        "int bestSpan() ",
        "int chosen(int) IndexOutOfBoundsException",
        "double meanCold() ",
        "int append(int) IllegalArgumentException,IllegalStateException",
        "int clearText() ",
        "int parse() ",
        "int undo() IllegalStateException",
        "long digest() ",
    };

    private static int wrong = 0;

    private static void check(String what, Object got, Object want) {
        if (!got.equals(want)) {
            wrong++;
            System.out.println(what + ": " + got + ", due is " + want);
        }
    }

    private static String names(Class<?>[] types) {
        List<String> all = new ArrayList<>();
        for (Class<?> type : types) {
            all.add(type.getSimpleName());
        }
        return String.join(",", all);
    }

    private static boolean isOpen(Member member) {
        return !Modifier.isPrivate(member.getModifiers()) && !member.isSynthetic();
    }

    public static void main(String[] args) throws Exception {
        Class<?> face = LiftDrill.class;
        check("the class's modifiers", Modifier.toString(face.getModifiers()), "public final");

        Set<String> open = new TreeSet<>();
        Set<String> openNames = new TreeSet<>();
        Set<String> hiddenNames = new TreeSet<>();
        for (Method method : face.getDeclaredMethods()) {
            if (isOpen(method)) {
                check("modifiers of " + method.getName(), Modifier.toString(method.getModifiers()), "public");
                open.add(method.getReturnType() + " " + method.getName() + "(" + names(method.getParameterTypes())
                    + ") " + names(method.getExceptionTypes()));
                openNames.add(method.getName());
            } else {
                hiddenNames.add(method.getName());
            }
        }
        check("the open methods", open, new TreeSet<>(Arrays.asList(FACE)));
        hiddenNames.retainAll(openNames);
        check("private methods with a public name", hiddenNames, new TreeSet<String>());

        Set<String> fields = new TreeSet<>();
        for (Field field : face.getDeclaredFields()) {
            if (isOpen(field)) {
                fields.add(Modifier.toString(field.getModifiers()) + " " + field.getType() + " " + field.getName());
            }
        }
        check("the open fields", fields, new TreeSet<>(List.of("public static final int NONE")));
        check("NONE", LiftDrill.NONE, -1);

        Constructor<?>[] constructors = face.getDeclaredConstructors();
        check("the constructors", constructors.length, 1);
        check("the constructor", constructors[0].toString(), "public LiftDrill()");

        for (Class<?> inside : face.getDeclaredClasses()) {
            int modifiers = inside.getModifiers();
            check(inside.getName() + " is static", Modifier.isStatic(modifiers), true);
            check(inside.getName() + " is open", Modifier.isPublic(modifiers) || Modifier.isProtected(modifiers), false);
        }
        System.out.println(wrong == 0 ? "the face is as due" : wrong + " parts of the face are not as due");
        if (wrong != 0) {
            System.exit(1);
        }
    }
}
