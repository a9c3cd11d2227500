import java.io.IOException;
import java.lang.reflect.Constructor;
import java.lang.reflect.Executable;
import java.lang.reflect.Field;
import java.lang.reflect.Method;
import java.lang.reflect.Modifier;
import java.nio.file.Files;
import java.nio.file.Path;
import java.util.ArrayList;
import java.util.Arrays;
import java.util.Collections;
import java.util.List;
import java.util.regex.Matcher;
import java.util.regex.Pattern;

/** The face is the document's and nothing more, and the program keeps to rules of LANGUAGE.md that can be seen. */
public final class FaceTest {
    private static final String[] FACE = {
        "agent()int", "at(int,int)int", "auction(int,int,int,int,int)int", "best()int", "book(boolean)int",
        "editor()int", "end(int,int)boolean", "grant(int,int,int,int,int,int,int)int", "has(int,int,int,int,int)int",
        "hears(int,int)int", "hours(int)boolean", "left(int,int,int,int,int)boolean", "list(int,int,boolean)boolean",
        "lower()long", "may(int,int,int,int,int,int,int,int)int", "meets(int,int)int",
        "offer(int,int,int,int,int,int,int,int,int)int", "option(int,int,int,int)boolean",
        "pour(int,int,int,int,int)boolean", "read(int,int)long", "sold(int)int", "state(int,int)int", "status()int",
        "take(int,int)int", "tray(int,int,int)boolean", "upper()long", "worth(int,int,int)boolean",
        "write(int,int,long)boolean"};
    private static final String[] FORBIDDEN = {"throw", "throws", "try", "catch", "finally", "synchronized", "assert",
        "protected", "native", "volatile", "Thread", "Random", "nanoTime", "currentTimeMillis"};
    private static final int MOST_CLASSES = 12;
    private static final int MOST_FIELDS = 20;
    private static final int MOST_PARAMETERS = 7;
    private static final int MOST_LINES = 60;

    public static void main(String[] args) throws IOException {
        faceIsTheDocuments();
        classesInside();
        String source = Files.readString(Path.of("src/main/java/FairTables.java"));
        String code = withoutComments(source);
        words(code);
        methodsAreShort(code);
        Due.end();
    }

    private static void yes(String what, boolean holds) {
        Due.is(what, holds, true);
    }

    private static void faceIsTheDocuments() {
        Class<?> face = FairTables.class;
        yes("public and final", Modifier.isPublic(face.getModifiers()) && Modifier.isFinal(face.getModifiers()));
        List<String> methods = new ArrayList<>();
        List<String> names = new ArrayList<>();
        for (Method m : face.getDeclaredMethods()) {
            if (!Modifier.isPrivate(m.getModifiers())) {
                methods.add(signature(m));
                names.add(m.getName());
                yes(m + " is public and no static one", m.getModifiers() == Modifier.PUBLIC);
            }
        }
        Collections.sort(methods);
        yes("methods: " + methods, methods.equals(Arrays.asList(FACE)));
        Constructor<?>[] made = face.getDeclaredConstructors();
        yes("one constructor", made.length == 1 && made[0].getModifiers() == Modifier.PUBLIC
                && made[0].getParameterCount() == 0);
        for (Field f : face.getDeclaredFields()) {
            boolean none = f.getName().equals("NONE") && f.getType() == int.class && Modifier.isPublic(f.getModifiers());
            yes("field " + f, none || Modifier.isPrivate(f.getModifiers()));
        }
        for (Class<?> type : allClasses()) {
            for (Method m : type.getDeclaredMethods()) {
                boolean ofTheFace = type == face && Modifier.isPublic(m.getModifiers());
                yes(m + " bears no public name", ofTheFace || !names.contains(m.getName()));
            }
        }
    }

    private static String signature(Method m) {
        StringBuilder text = new StringBuilder(m.getName()).append('(');
        String comma = "";
        for (Class<?> p : m.getParameterTypes()) {
            text.append(comma).append(p.getName());
            comma = ",";
        }
        return text.append(')').append(m.getReturnType().getName()).toString();
    }

    private static List<Class<?>> allClasses() {
        List<Class<?>> all = new ArrayList<>();
        all.add(FairTables.class);
        all.addAll(Arrays.asList(FairTables.class.getDeclaredClasses()));
        return all;
    }

    private static void classesInside() {
        yes("classes", allClasses().size() <= MOST_CLASSES);
        for (Class<?> type : allClasses()) {
            yes(type + " is static or the face", type == FairTables.class || Modifier.isStatic(type.getModifiers()));
            yes(type + " holds no class", type == FairTables.class || type.getDeclaredClasses().length == 0);
            int fields = 0;
            for (Field f : type.getDeclaredFields()) {
                boolean isStatic = Modifier.isStatic(f.getModifiers());
                fields += isStatic ? 0 : 1;
                yes(f + " is final if static", !isStatic || Modifier.isFinal(f.getModifiers()));
            }
            yes(type + " has few fields", fields <= MOST_FIELDS);
            List<Executable> all = new ArrayList<>(Arrays.asList(type.getDeclaredMethods()));
            all.addAll(Arrays.asList(type.getDeclaredConstructors()));
            for (Executable e : all) {
                boolean ofTheFace = type == FairTables.class && Modifier.isPublic(e.getModifiers());
                yes(e + " takes few parameters", ofTheFace || e.getParameterCount() <= MOST_PARAMETERS);
            }
        }
    }

    private static String withoutComments(String source) {
        return source.replaceAll("(?s)/\\*.*?\\*/", "").replaceAll("//[^\n]*", "");
    }

    private static void words(String code) {
        for (String word : FORBIDDEN) {
            yes("no " + word, !Pattern.compile("\\b" + word + "\\b").matcher(code).find());
        }
        yes("none of the Exact functions", !Pattern.compile("Exact\\b").matcher(code).find());
        yes("no lambda", !code.contains("->"));
        yes("no method reference", !code.contains("::"));
        yes("no package", !Pattern.compile("(?m)^package").matcher(code).find());
        Matcher imports = Pattern.compile("(?m)^import\\s+(.*);").matcher(code);
        while (imports.find()) {
            yes("import " + imports.group(1), imports.group(1).equals("java.util.Arrays"));
        }
        yes("ASCII alone", code.chars().allMatch(c -> c < 128));
    }

    private static void methodsAreShort(String code) {
        String[] lines = code.split("\n");
        Pattern head = Pattern.compile("^( +)(?! |return|else|if|for|switch)[\\w\\[\\]<> ]+\\(.*\\) \\{$");
        for (int i = 0; i < lines.length; i++) {
            Matcher m = head.matcher(lines[i]);
            if (m.matches()) {
                int end = i;
                while (end < lines.length && !lines[end].equals(m.group(1) + "}")) {
                    end++;
                }
                yes(lines[i].trim() + " is short", end - i < MOST_LINES);
            }
        }
    }
}
