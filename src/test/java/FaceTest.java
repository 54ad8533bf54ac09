import java.io.IOException;
import java.lang.reflect.Constructor;
import java.lang.reflect.Field;
import java.lang.reflect.Method;
import java.lang.reflect.Modifier;
import java.nio.file.Files;
import java.nio.file.Path;
import java.util.Arrays;
import java.util.HashSet;
import java.util.List;
import java.util.Set;
import java.util.TreeSet;
import java.util.regex.Matcher;
import java.util.regex.Pattern;
import java.util.stream.Collectors;

/** The public face as the document gives it, and those rules of LANGUAGE.md that can be looked at in the file. */
public final class FaceTest {
    private static final List<String> FACE = List.of("int feed(long,long,long)", "int office()", "int day()",
        "int caller(int,int)", "int met(int,int)", "int line(int)", "int ring(int)", "boolean off(int)",
        "boolean swap(int,int)", "int minute()", "boolean undo()", "int judged(int)", "int next(int)", "int when(int)",
        "int empty()", "int meets(int,int)", "int spread(int)", "int order(int)", "int helpers(int)", "int gone(int)",
        "int holders(int)", "int hears(int,int)", "int deal(int)", "int usual(int)", "int lost()", "int wisest()",
        "boolean tell(int,boolean)", "int sets(int)", "int ask()", "int chance(int)", "int other(int)",
        "int rests(int,int,int,int)", "int days(int,int,int)", "boolean mark(int,boolean)", "int count(int)");
    private static final List<String> NOT_IN_IT = List.of("finally", "synchronized", "assert", "->", "::", "System.out",
        "Thread", "Random", "currentTimeMillis", "nanoTime", "Exact", "hashCode", "toString", "try", "catch", "goto",
        "protected", "volatile", "transient", "native", "package ", "import java.util.*");

    public static void main(String[] args) throws IOException {
        members();
        inside();
        source();
        Check.due("NONE", HeldMusic.NONE, -1);
        Check.end("FaceTest");
    }

    private static void so(String what, boolean is) {
        Check.due(what, is, true);
    }

    private static void members() {
        Class<?> face = HeldMusic.class;
        so("public and final", Modifier.isPublic(face.getModifiers()) && Modifier.isFinal(face.getModifiers()));
        Set<String> found = new TreeSet<>();
        for (Method m : face.getDeclaredMethods()) {
            if (!Modifier.isPrivate(m.getModifiers())) {
                so(m + " is public", Modifier.isPublic(m.getModifiers()) && !Modifier.isStatic(m.getModifiers()));
                String of = Arrays.stream(m.getParameterTypes()).map(Class::getName).collect(Collectors.joining(","));
                found.add(m.getReturnType().getName() + " " + m.getName() + "(" + of + ")");
            }
        }
        so("the methods of the face, " + found, found.equals(new TreeSet<>(FACE)));
        Constructor<?>[] made = face.getDeclaredConstructors();
        so("one constructor", made.length == 1 && made[0].getParameterCount() == 0
            && Modifier.isPublic(made[0].getModifiers()));
        for (Field f : face.getDeclaredFields()) {
            so(f + " is private", f.getName().equals("NONE") || Modifier.isPrivate(f.getModifiers()));
        }
        try {
            Class<?>[] thrown = face.getMethod("rests", int.class, int.class, int.class, int.class).getExceptionTypes();
            so("rests tells what it throws", thrown.length == 1 && thrown[0] == java.util.NoSuchElementException.class);
        } catch (NoSuchMethodException e) {
            so("rests is there", false);
        }
    }

    private static void inside() {
        Set<String> faceNames = new HashSet<>();
        for (String m : FACE) {
            faceNames.add(m.substring(m.indexOf(' ') + 1, m.indexOf('(')));
        }
        Class<?>[] classes = HeldMusic.class.getDeclaredClasses();
        so("some twelve classes", classes.length <= 11);
        for (Class<?> c : classes) {
            so(c + " is static and not public",
                Modifier.isStatic(c.getModifiers()) && !Modifier.isPublic(c.getModifiers()));
            for (Method m : c.getDeclaredMethods()) {
                so(m + " bears no name of the face", !faceNames.contains(m.getName()));
            }
            fields(c);
        }
        for (Method m : HeldMusic.class.getDeclaredMethods()) {
            so(m + " is no private one with a name of the face",
                !Modifier.isPrivate(m.getModifiers()) || !faceNames.contains(m.getName()));
            so(m + " has seven parameters at most", m.getParameterCount() <= 7);
        }
        fields(HeldMusic.class);
    }

    private static void fields(Class<?> c) {
        int own = 0;
        for (Field f : c.getDeclaredFields()) {
            if (Modifier.isStatic(f.getModifiers())) {
                so(f + " is final", Modifier.isFinal(f.getModifiers()));
            } else {
                own++;
            }
        }
        so(c + " has some twenty fields", own <= 20);
    }

    private static void source() throws IOException {
        String text = Files.readString(Path.of("src/main/java/HeldMusic.java"));
        String code = text.replaceAll("(?s)/\\*.*?\\*/", "").replaceAll("//[^\n]*", "").replaceAll("\"[^\"\n]*\"", "\"\"");
        for (String word : NOT_IN_IT) {
            so("no " + word, !code.contains(word));
        }
        so("signs 10 and 32 to 126", text.chars().allMatch(c -> c == 10 || c >= 32 && c <= 126));
        Matcher thrown = Pattern.compile("throw [^;]*;").matcher(code);
        while (thrown.find()) {
            so(thrown.group(), thrown.group().equals("throw new NoSuchElementException();"));
        }
        Matcher method = Pattern.compile("(?m)^( +)[^ \n}*/][^\n;=]*\\)(?: throws \\w+)? \\{\n((?:.*\n)*?)\\1\\}\n").matcher(code);
        int methods = 0;
        while (method.find()) {
            long lines = method.group(2).lines().count();
            so("sixty lines at most: " + method.group().lines().findFirst().orElse(""), lines <= 60);
            methods++;
        }
        so("methods were looked at", methods > 60);
    }
}
