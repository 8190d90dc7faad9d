import java.lang.reflect.Constructor;
import java.lang.reflect.Field;
import java.lang.reflect.Method;
import java.lang.reflect.Modifier;
import java.util.Arrays;
import java.util.Set;
import java.util.TreeSet;

/** The public face is the document's, and nothing else can be seen from outside. */
public final class FaceTest {
    private static final Set<String> FACE = Set.of(
            "void bar(int,int,int)",
            "boolean sign(int,int,int)",
            "int signAt(int,int)",
            "int note(int,int,int,int,int,boolean)",
            "int transpose(int,int)",
            "int check()",
            "int plays()",
            "int played(int)",
            "int time(int)",
            "int find(int,int)",
            "long tick(int)",
            "int at(long)",
            "int sounds(int)",
            "long sound(int,int,int)",
            "int rest(int,int)");

    private static int wrong = 0;

    public static void main(String[] args) {
        Class<?> face = ScoreRoads.class;
        due("class is public and final",
                Modifier.isPublic(face.getModifiers()) && Modifier.isFinal(face.getModifiers()));
        due("class has no package", face.getPackageName().isEmpty());
        methodsAreTheFace(face);
        onlyNoneIsSeen(face);
        onlyOneConstructor(face);
        Set<String> names = new TreeSet<>();
        FACE.forEach(m -> names.add(m.substring(m.indexOf(' ') + 1, m.indexOf('('))));
        for (Class<?> inside : face.getDeclaredClasses()) {
            int modifiers = inside.getModifiers();
            due(inside + " is static", Modifier.isStatic(modifiers));
            due(inside + " is not public", !Modifier.isPublic(modifiers) && !Modifier.isProtected(modifiers));
            noneBearsTheName(inside, names);
        }
        System.out.println(wrong == 0 ? "the face is as due" : wrong + " things of the face are not as due");
        if (wrong != 0) {
            System.exit(1);
        }
    }

    private static void methodsAreTheFace(Class<?> face) {
        Set<String> seen = new TreeSet<>();
        Set<String> names = new TreeSet<>();
        for (Method m : face.getDeclaredMethods()) {
            if (!Modifier.isPrivate(m.getModifiers())) {
                due(m + " is public and no static one",
                        Modifier.isPublic(m.getModifiers()) && !Modifier.isStatic(m.getModifiers()));
                String types = Arrays.toString(m.getParameterTypes()).replaceAll("[\\[\\] ]", "");
                seen.add(m.getReturnType() + " " + m.getName() + "(" + types + ")");
                names.add(m.getName());
            }
        }
        due("methods: " + seen, seen.equals(FACE));
        for (Method m : face.getDeclaredMethods()) {
            due(m + " bears no public name", !Modifier.isPrivate(m.getModifiers()) || !names.contains(m.getName()));
        }
    }

    private static void noneBearsTheName(Class<?> inside, Set<String> names) {
        for (Method m : inside.getDeclaredMethods()) {
            due(m + " bears no public name", !names.contains(m.getName()));
        }
    }

    private static void onlyNoneIsSeen(Class<?> face) {
        for (Field f : face.getDeclaredFields()) {
            int modifiers = f.getModifiers();
            boolean isNone = f.getName().equals("NONE") && f.getType() == int.class;
            due(f + " is seen just if it is NONE", isNone == Modifier.isPublic(modifiers));
            due(f + " is private otherwise", isNone || Modifier.isPrivate(modifiers));
            due(f + " is final if it is static", !Modifier.isStatic(modifiers) || Modifier.isFinal(modifiers));
        }
    }

    private static void onlyOneConstructor(Class<?> face) {
        Constructor<?>[] all = face.getDeclaredConstructors();
        due("one public constructor with an int", all.length == 1 && Modifier.isPublic(all[0].getModifiers())
                && Arrays.equals(all[0].getParameterTypes(), new Class<?>[] {int.class}));
    }

    private static void due(String what, boolean holds) {
        if (!holds) {
            wrong++;
            System.out.println("not so: " + what);
        }
    }
}
