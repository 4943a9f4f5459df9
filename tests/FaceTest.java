import java.io.IOException;
import java.lang.reflect.Constructor;
import java.lang.reflect.Field;
import java.lang.reflect.Method;
import java.lang.reflect.Modifier;
import java.nio.file.Files;
import java.nio.file.Path;
import java.util.ArrayList;
import java.util.Arrays;
import java.util.List;
import java.util.Set;
import java.util.TreeSet;
import java.util.regex.Matcher;
import java.util.regex.Pattern;

/** The public face, by what the compiled class has, and the rules of LANGUAGE.md that can be read off the file. */
public final class FaceTest {
    private static final String[] FACE = {
        "int group(int,int)", "int relation(int,int,int,int)", "int groupIs(int,int)", "int ring(int,int)",
        "int step(int,int)", "long normal(int,int,int,int,int)", "int order(int,int,int,int)", "int same(int,int)",
        "int ofTwo(int,int,int,int)", "int span(int,int,int,int)", "int map(int,int,int)",
        "int entry(int,int,int,int)", "int at(int,int,int)", "int mapIs(int,int)",
        "long image(int,int,int,int,int)", "int part(int,int,int)", "long whence(int,int,int,int,int)",
        "int exact(int,int)", "int feed(long,int)", "int text(int)", "int diagram(int,int)",
        "long connected(int,int,int,int,int,int)", "int move(int,int)", "int stop(int)",
        "long run(int,int,int,int,int)", "int undo()", "int sheet(int,int,int)", "int put(int,int,long)",
        "int item(int,int,int)", "int lay(int,int,int,int,int)", "int hold(int,int)", "int add(int,int)",
        "int rest(int)", "long lies(int,int)", "int taken(int,int)", "int many(int)", "int keep()", "int again()"};
    private static int wrong = 0;

    private static void must(boolean holds, String what) {
        if (!holds) {
            wrong++;
            System.out.println("not as due: " + what);
        }
    }

    public static void main(String[] args) throws IOException {
        members();
        for (Class<?> inside : GroupsByRelations.class.getDeclaredClasses()) {
            insides(inside);
        }
        String text = Files.readString(Path.of("src/main/java/GroupsByRelations.java"));
        words(withoutComments(text));
        lengths(withoutComments(text));
        System.out.println(wrong == 0 ? "the face and the file are as due" : wrong + " things are not as due");
        if (wrong > 0) {
            System.exit(1);
        }
    }

    private static void members() {
        Class<?> c = GroupsByRelations.class;
        must(Modifier.isFinal(c.getModifiers()) && Modifier.isPublic(c.getModifiers()), "public and final");
        must(c.getPackageName().isEmpty(), "no package");
        Set<String> found = new TreeSet<>();
        Set<String> names = new TreeSet<>();
        for (Method m : c.getDeclaredMethods()) {
            if (Modifier.isPublic(m.getModifiers())) {
                found.add(told(m));
                names.add(m.getName());
                must(!Modifier.isStatic(m.getModifiers()), "not static: " + m);
            }
        }
        must(found.equals(new TreeSet<>(Arrays.asList(FACE))), "the methods: " + found);
        for (Method m : c.getDeclaredMethods()) {
            if (!Modifier.isPublic(m.getModifiers())) {
                must(Modifier.isPrivate(m.getModifiers()), "private: " + m);
                must(!names.contains(m.getName()), "a private method bears the name of a public one: " + m);
            }
        }
        Set<String> constants = new TreeSet<>();
        int fields = 0;
        for (Field f : c.getDeclaredFields()) {
            if (Modifier.isPublic(f.getModifiers())) {
                constants.add(f.getName());
            } else {
                must(Modifier.isPrivate(f.getModifiers()), "private: " + f);
            }
            fields += Modifier.isStatic(f.getModifiers()) ? 0 : 1;
        }
        must(constants.equals(Set.of("BAD", "FULL", "NONE", "STATE")), "the constants: " + constants);
        must(fields <= 20, "some twenty fields: " + fields);
        Constructor<?>[] made = c.getDeclaredConstructors();
        must(made.length == 1 && Modifier.isPublic(made[0].getModifiers()) && made[0].getParameterCount() == 0, "the constructor");
        must(c.getDeclaredClasses().length <= 12, "some twelve classes");
    }

    private static String told(Method m) {
        List<String> types = new ArrayList<>();
        for (Class<?> type : m.getParameterTypes()) {
            types.add(type.getName());
        }
        return m.getReturnType().getName() + " " + m.getName() + "(" + String.join(",", types) + ")";
    }

    private static void insides(Class<?> inside) {
        must(Modifier.isStatic(inside.getModifiers()), "static: " + inside);
        must(!Modifier.isPublic(inside.getModifiers()) && !Modifier.isProtected(inside.getModifiers()), "not public: " + inside);
        int fields = 0;
        for (Field f : inside.getDeclaredFields()) {
            boolean isStatic = Modifier.isStatic(f.getModifiers());
            must(!isStatic || Modifier.isFinal(f.getModifiers()), "static state: " + f);
            fields += isStatic ? 0 : 1;
        }
        must(fields <= 20, "some twenty fields: " + inside);
        for (Method m : inside.getDeclaredMethods()) {
            must(m.getParameterCount() <= 7, "at most seven parameters: " + m);
        }
    }

    private static String withoutComments(String text) {
        return text.replaceAll("(?s)/\\*.*?\\*/", "").replaceAll("//[^\n]*", "");
    }

    private static void words(String code) {
        String[] banned = {"throw", "throws", "try", "catch", "finally", "synchronized", "assert", "Object", "equals",
            "hashCode", "toString", "double", "float", "Random", "Thread", "Exact", "native", "volatile", "var"};
        for (String word : banned) {
            must(!Pattern.compile("\\b" + word + "\\b").matcher(code).find(), "the word " + word);
        }
        must(!code.contains("->") && !code.contains("::"), "no lambda, no method reference");
        must(!code.contains("package "), "no package line");
        must(!code.contains("@"), "no annotation");
        for (char sign : code.toCharArray()) {
            must(sign < 128, "signs below 128");
        }
        Set<String> imports = new TreeSet<>();
        Matcher m = Pattern.compile("import ([^;]+);").matcher(code);
        while (m.find()) {
            imports.add(m.group(1));
        }
        must(Set.of("java.util.Arrays", "java.util.ArrayList", "java.util.List").containsAll(imports), "imports: " + imports);
        m = Pattern.compile("\\b(System|Arrays|Math)\\.(\\w+)").matcher(code);
        Set<String> allowed = Set.of("System.arraycopy", "Arrays.fill", "Arrays.copyOf", "Arrays.copyOfRange", "Math.max",
            "Math.min", "Math.abs", "Math.floorDiv", "Math.floorMod");
        while (m.find()) {
            must(allowed.contains(m.group()), "the library: " + m.group());
        }
    }

    /** Methods stay within some sixty lines: from a line that opens one to the line that closes it. */
    private static void lengths(String code) {
        String[] lines = code.split("\n");
        for (int i = 0; i < lines.length; i++) {
            Matcher m = Pattern.compile("^( {4}| {8})(?! )(?!static final class|public final class).*\\) \\{$").matcher(lines[i]);
            if (m.find()) {
                int end = i;
                while (end < lines.length && !lines[end].equals(m.group(1) + "}")) {
                    end++;
                }
                must(end - i <= 60, "some sixty lines: " + lines[i].trim());
            }
        }
    }
}
