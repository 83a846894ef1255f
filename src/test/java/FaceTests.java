import java.io.IOException;
import java.lang.reflect.Constructor;
import java.lang.reflect.Field;
import java.lang.reflect.Method;
import java.lang.reflect.Modifier;
import java.nio.file.Files;
import java.nio.file.Path;
import java.util.ArrayList;
import java.util.List;
import java.util.TreeSet;
import java.util.regex.Matcher;
import java.util.regex.Pattern;

/** The public face as the document has it, and those rules of the language that can be read from the text. */
final class FaceTests {
    private static final Path SOURCE = Path.of("src/main/java/LampCounts.java");
    private static final String IOOBE = "IndexOutOfBoundsException";
    private static final String IAE = "IllegalArgumentException";
    private static final String ISE = "IllegalStateException";

    private static final List<String> FACE = List.of(
            "int setPeople(int,int,int) " + IOOBE + " " + IAE,
            "int pass(int) " + IAE + " " + ISE,
            "int setLamp(int,boolean,int) " + IOOBE + " " + IAE,
            "int find(int,int,int) " + IOOBE + " " + IAE + " " + ISE,
            "int turnUp(int,int,int) " + IOOBE + " " + IAE + " " + ISE,
            "int lease(int,int,int,int,int) " + IOOBE + " " + IAE + " " + ISE,
            "int quit(int) " + IOOBE + " " + ISE,
            "int pay(int,int) " + IOOBE + " " + IAE + " " + ISE,
            "int setSkill(int,int) " + IOOBE + " " + IAE,
            "int ask(int,int) " + IOOBE + " " + ISE,
            "int lot(int) " + IAE + " " + ISE,
            "int hour()",
            "int steps(int,int) " + IOOBE + " " + IAE,
            "int crowd(int,int) " + IOOBE + " " + IAE,
            "int through(int) " + IAE,
            "int reading(int,int) " + IOOBE + " " + IAE,
            "int taken(int,int) " + IOOBE + " " + IAE,
            "int count(int,int) " + IOOBE + " " + IAE,
            "int countAnew(int,int) " + IOOBE + " " + IAE,
            "int missed(int) " + IAE,
            "int leases()",
            "boolean isOf(int,int) " + IOOBE,
            "int billed(int) " + IOOBE,
            "int billedAnew(int) " + IOOBE,
            "int corrected(int) " + IOOBE,
            "int owes(int) " + IOOBE,
            "int player(int,int) " + IOOBE + " " + IAE,
            "int played(int) " + IOOBE,
            "int coins(int) " + IOOBE,
            "int lots()");

    private FaceTests() {
    }

    static void run() {
        face();
        inside();
        text();
    }

    private static void face() {
        TreeSet<String> there = new TreeSet<>();
        for (Method method : LampCounts.class.getDeclaredMethods()) {
            if (Modifier.isPublic(method.getModifiers())) {
                there.add(told(method));
            } else {
                Check.holds("private: " + method, method.isSynthetic() || Modifier.isPrivate(method.getModifiers()));
            }
        }
        Check.holds("the face is " + there, there.equals(new TreeSet<>(FACE)));
        Constructor<?>[] constructors = LampCounts.class.getDeclaredConstructors();
        Check.same("constructors", 1, constructors.length);
        Check.same("arguments of the constructor", 0, constructors[0].getParameterCount());
        Check.holds("a public constructor", Modifier.isPublic(constructors[0].getModifiers()));
        Check.holds("a public final class", LampCounts.class.getModifiers() == (Modifier.PUBLIC | Modifier.FINAL));
        for (Field field : LampCounts.class.getDeclaredFields()) {
            Check.holds("private: " + field, field.isSynthetic() || Modifier.isPrivate(field.getModifiers()));
        }
    }

    private static String told(Method method) {
        List<String> types = new ArrayList<>();
        for (Class<?> type : method.getParameterTypes()) {
            types.add(type.getSimpleName());
        }
        StringBuilder all = new StringBuilder();
        all.append(method.getReturnType()).append(' ').append(method.getName());
        all.append('(').append(String.join(",", types)).append(')');
        for (Class<?> thrown : method.getExceptionTypes()) {
            all.append(' ').append(thrown.getSimpleName());
        }
        return all.toString();
    }

    private static void inside() {
        TreeSet<String> names = new TreeSet<>();
        for (Method method : LampCounts.class.getMethods()) {
            names.add(method.getName());
        }
        List<Class<?>> all = new ArrayList<>(List.of(LampCounts.class.getDeclaredClasses()));
        Check.holds("at most twelve classes", all.size() < 12);
        all.add(LampCounts.class);
        for (Class<?> one : all) {
            int fields = 0;
            for (Field field : one.getDeclaredFields()) {
                int modifiers = field.getModifiers();
                fields += Modifier.isStatic(modifiers) ? 0 : 1;
                Check.holds("no static state: " + field, !Modifier.isStatic(modifiers) || Modifier.isFinal(modifiers));
            }
            Check.holds("at most twenty fields in " + one, fields <= 20);
            for (Method method : one.getDeclaredMethods()) {
                Check.holds("at most seven parameters: " + method, method.getParameterCount() <= 7);
                boolean own = one == LampCounts.class && Modifier.isPublic(method.getModifiers());
                Check.holds("no name of the face: " + method, own || !names.contains(method.getName()));
            }
        }
    }

    private static void text() {
        String source;
        try {
            source = Files.readString(SOURCE);
        } catch (IOException e) {
            Check.holds("the source can be read at " + SOURCE, false);
            return;
        }
        Matcher imports = Pattern.compile("(?m)^import (.*);$").matcher(source);
        while (imports.find()) {
            String name = imports.group(1);
            Check.holds("import " + name, List.of("java.util.ArrayList", "java.util.Arrays").contains(name));
        }
        String forbidden = "\\b(package|synchronized|assert|finally|catch|try|equals|hashCode|toString|System\\.(?!arraycopy)"
                + "|Exact|lambda|record|float|double|clone)\\b|->|::|\\w+Exact\\b|java\\.(?!util\\.Array)";
        Matcher found = Pattern.compile(forbidden).matcher(source.replaceAll("(?s)/\\*.*?\\*/|//[^\n]*", ""));
        Check.holds("no word outside the rules", !found.find());
        Check.holds("plain signs alone", source.chars().allMatch(sign -> sign < 127));
        for (String line : source.split("\n")) {
            Check.holds("a line of at most 120 signs: " + line, line.length() <= 120);
        }
    }
}
