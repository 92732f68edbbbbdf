import java.io.IOException;
import java.lang.reflect.Constructor;
import java.lang.reflect.Field;
import java.lang.reflect.Method;
import java.lang.reflect.Modifier;
import java.nio.file.Files;
import java.nio.file.Path;
import java.util.Set;
import java.util.TreeSet;
import java.util.regex.Matcher;
import java.util.regex.Pattern;

/** The public face, and those rules of LANGUAGE.md that can be looked up in the file. */
public final class FaceTest {
    private static final Due due = new Due("FaceTest");
    private static final String FACE = "write(int)int wipe()int fault()int bed()int blanket(int,int)int "
            + "sleeper(int,int)int cell(int,int)int take(int)int lay(int)int tuck(int)int turn(int,int)int "
            + "night()int undo()int toTake(int,int)int toTurn(int,int)int toTuck(int,int)int "
            + "orders(int,int,boolean)int judge(int,int)int see(int,int)int unsee()int gone()int "
            + "where(int,int)int share(int,boolean)int rests(int,int,int,int,int)int "
            + "kicked(int,int,int,boolean)int seed(long)long weeks(int)int keep(int)int again(int)int count(int)int";

    public static void main(String[] args) throws IOException {
        constants();
        methods();
        members();
        rules(Files.readString(Path.of("src/main/java/CenturyBeds.java")));
        due.end();
    }

    private static void no(String what, boolean found) {
        due.is(what, found ? 1 : 0, 0);
    }

    private static void constants() {
        due.is("UNKNOWN", CenturyBeds.UNKNOWN, -1);
        due.is("OUTSIDE", CenturyBeds.OUTSIDE, -2);
        due.is("STATE", CenturyBeds.STATE, -3);
        due.is("FULL", CenturyBeds.FULL, -4);
        due.is("NONE", CenturyBeds.NONE, -9);
    }

    private static void methods() {
        Set<String> want = new TreeSet<>(Set.of(FACE.split(" ")));
        Set<String> names = new TreeSet<>();
        for (Method m : CenturyBeds.class.getDeclaredMethods()) {
            if (Modifier.isPublic(m.getModifiers())) {
                StringBuilder s = new StringBuilder();
                for (Class<?> p : m.getParameterTypes()) {
                    s.append(s.length() == 0 ? "" : ",").append(p.getName());
                }
                String told = m.getName() + "(" + s + ")" + m.getReturnType().getName();
                no("a public method too many, " + told, !want.remove(told));
                names.add(m.getName());
            } else {
                no("a method that is not private, " + m.getName(), !Modifier.isPrivate(m.getModifiers()));
            }
        }
        no("public methods that are missing, " + want, !want.isEmpty());
        for (Class<?> inside : CenturyBeds.class.getDeclaredClasses()) {
            for (Method m : inside.getDeclaredMethods()) {
                no("a public name inside, " + m.getName(), names.contains(m.getName()));
                no("seven parameters at most, " + m.getName(), m.getParameterCount() > 7);
            }
        }
    }

    private static void members() {
        no("the class is public and final", CenturyBeds.class.getModifiers() != (Modifier.PUBLIC | Modifier.FINAL));
        Constructor<?>[] made = CenturyBeds.class.getDeclaredConstructors();
        no("one public constructor", made.length != 1 || made[0].getModifiers() != Modifier.PUBLIC);
        for (Field f : CenturyBeds.class.getDeclaredFields()) {
            boolean constant = Set.of("UNKNOWN", "OUTSIDE", "STATE", "FULL", "NONE").contains(f.getName());
            int how = constant ? Modifier.PUBLIC : Modifier.PRIVATE;
            no("a field of another sight, " + f.getName(), (f.getModifiers() & how) == 0);
        }
        int classes = CenturyBeds.class.getDeclaredClasses().length + 1;
        no("twelve classes at most, " + classes, classes > 12);
        for (Class<?> inside : CenturyBeds.class.getDeclaredClasses()) {
            no("a class that is not static, " + inside, !Modifier.isStatic(inside.getModifiers()));
            staticFields(inside);
        }
        staticFields(CenturyBeds.class);
    }

    private static void staticFields(Class<?> of) {
        int own = 0;
        for (Field f : of.getDeclaredFields()) {
            boolean isStatic = Modifier.isStatic(f.getModifiers());
            own += isStatic ? 0 : 1;
            no("a static field that is not final, " + f, isStatic && !Modifier.isFinal(f.getModifiers()));
        }
        no("twenty fields at most, " + of, own > 20);
    }

    private static void rules(String source) {
        String code = source.replaceAll("(?s)/\\*.*?\\*/", "").replaceAll("//[^\n]*", "");
        String[] words = {"package", "import", "throw", "throws", "try", "catch", "synchronized", "assert",
            "instanceof", "String", "equals", "hashCode", "toString", "Object", "System", "double", "float"};
        for (String word : words) {
            no("the word " + word, Pattern.compile("\\b" + word + "\\b").matcher(code).find());
        }
        no("a lambda", code.contains("->"));
        no("a method reference", code.contains("::"));
        no("a name that ends in Exact", code.contains("Exact"));
        Matcher body = Pattern.compile("(?sm)^( +)[^\n;=]*\\([^\n;]*\\) \\{\n.*?^\\1\\}").matcher(code);
        while (body.find()) {
            no("sixty lines at most:\n" + body.group(), body.group().lines().count() > 60);
        }
    }
}
