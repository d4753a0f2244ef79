import java.io.IOException;
import java.lang.reflect.Constructor;
import java.lang.reflect.Field;
import java.lang.reflect.Method;
import java.lang.reflect.Modifier;
import java.nio.file.Files;
import java.nio.file.Path;
import java.util.Arrays;
import java.util.Set;
import java.util.TreeSet;
import java.util.regex.Matcher;
import java.util.regex.Pattern;

/** The public face is the document's, and the source keeps to those rules of LANGUAGE.md that can be seen from outside. */
public final class FaceTest {
    private static final String[] FACE = {
        "int type(int)", "int clear()", "int house()", "int good(int,int)", "int day(int,int,int)", "int goes()",
        "int takes(int,int)", "int buys(int,int)", "int holds(int)", "int undo()", "int now(int)",
        "int gives(int,int)", "int hungry(int,int)", "int fed(int,int)", "int carry(int,int)",
        "int odds(int,int,int)", "int store(int,int)", "int saw(int,int)", "int days()", "int look()",
        "int gave(int,int)", "int laws(int)", "int forget()", "int mark(int,int)", "int keep(int)", "int back(int)",
        "int count(int)", "long trace()"};
    private static final String[] FORBIDDEN = {"\\bthrow\\b", "\\btry\\b", "\\bcatch\\b", "\\bsynchronized\\b",
        "\\bassert\\b", "->", "::", "\\bimport\\b", "\\bpackage\\b", "\\bException\\b", "\\bError\\b", "@",
        "\\bRandom\\b", "\\bSystem\\.(?!arraycopy)", "\\bMath\\.(?!min\\b|max\\b)", "Exact\\b", "\\bstatic\\s*\\{"};
    private static int wrong = 0;

    private static void is(boolean so, String what) {
        if (!so) {
            wrong++;
            System.out.println("not so: " + what);
        }
    }

    private static String told(Method m) {
        StringBuilder s = new StringBuilder(m.getReturnType() + " " + m.getName() + "(");
        for (Class<?> p : m.getParameterTypes()) s.append(s.charAt(s.length() - 1) == '(' ? "" : ",").append(p);
        return s.append(")").toString();
    }

    private static void members() {
        Set<String> want = new TreeSet<>(Arrays.asList(FACE)), got = new TreeSet<>();
        for (Method m : PantryDoors.class.getDeclaredMethods()) {
            if (Modifier.isPublic(m.getModifiers())) {
                got.add(told(m));
                is(!Modifier.isStatic(m.getModifiers()), m + " is no static method");
            } else {
                is(Modifier.isPrivate(m.getModifiers()), m + " is private");
            }
        }
        is(want.equals(got), "the methods are the document's: " + got);
        Set<String> constants = new TreeSet<>();
        for (Field f : PantryDoors.class.getDeclaredFields()) {
            if (Modifier.isPublic(f.getModifiers())) {
                constants.add(f.getName());
                is(f.getType() == int.class && Modifier.isStatic(f.getModifiers()) && Modifier.isFinal(f.getModifiers()),
                    f + " is a constant");
            } else {
                is(Modifier.isPrivate(f.getModifiers()), f + " is private");
            }
        }
        is(constants.toString().equals("[BAD, FULL, NO, NONE, STATE]"), "the constants are the document's");
        is(PantryDoors.BAD == -1 && PantryDoors.STATE == -2 && PantryDoors.FULL == -3 && PantryDoors.NONE == -9
            && PantryDoors.NO == -1000000, "the constants are as told");
        Constructor<?>[] makers = PantryDoors.class.getDeclaredConstructors();
        is(makers.length == 1 && makers[0].getParameterCount() == 0 && Modifier.isPublic(makers[0].getModifiers()),
            "one public constructor");
        is(Modifier.isFinal(PantryDoors.class.getModifiers()), "the class is final");
    }

    private static void classesInside() {
        Set<String> names = new TreeSet<>();
        for (String f : FACE) names.add(f.substring(f.indexOf(' ') + 1, f.indexOf('(')));
        for (Method m : PantryDoors.class.getDeclaredMethods()) {
            is(Modifier.isPublic(m.getModifiers()) || !names.contains(m.getName()), m + " bears a name of its own");
        }
        is(PantryDoors.class.getDeclaredClasses().length <= 12, "some twelve classes");
        for (Class<?> c : PantryDoors.class.getDeclaredClasses()) {
            is(Modifier.isStatic(c.getModifiers()), c + " is static");
            is(!Modifier.isPublic(c.getModifiers()) && !Modifier.isProtected(c.getModifiers()), c + " is inside");
            is(Arrays.stream(c.getDeclaredFields()).filter(f -> !Modifier.isStatic(f.getModifiers())).count() <= 20,
                c + " has some twenty fields");
            for (Method m : c.getDeclaredMethods()) {
                is(!names.contains(m.getName()), m + " bears a name of its own");
                is(m.getParameterCount() <= 7, m + " takes at most seven");
            }
            for (Field f : c.getDeclaredFields()) {
                is(!Modifier.isStatic(f.getModifiers()) || Modifier.isFinal(f.getModifiers()), f + " is final");
            }
        }
    }

    private static void source() throws IOException {
        String code = Files.readString(Path.of("src/main/java/PantryDoors.java"))
            .replaceAll("(?s)/\\*.*?\\*/", "").replaceAll("//[^\n]*", "");
        for (String f : FORBIDDEN) {
            Matcher m = Pattern.compile(f).matcher(code);
            is(!m.find(), "the source is without " + f);
        }
    }

    public static void main(String[] args) throws IOException {
        members();
        classesInside();
        source();
        System.out.println(wrong == 0 ? "the face is as told" : wrong + " things are not so");
        if (wrong != 0) System.exit(1);
    }
}
