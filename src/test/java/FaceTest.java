import java.lang.reflect.Constructor;
import java.lang.reflect.Field;
import java.lang.reflect.Method;
import java.lang.reflect.Modifier;
import java.nio.charset.StandardCharsets;
import java.nio.file.Files;
import java.nio.file.Path;
import java.util.ArrayList;
import java.util.List;
import java.util.Set;
import java.util.TreeSet;
import java.util.regex.Matcher;
import java.util.regex.Pattern;

/** The public face, and what LANGUAGE.md rules that can be seen without reading: members, words, lengths. */
public final class FaceTest {
    private static final Path SOURCE = Path.of("src/main/java/ToldByWitnesses.java");
    private static final String[] FACE = {
        "int all(int)", "int back()", "int canBe(int)", "int cell(int,int,int)", "int copy(int,int,int,int,int)",
        "int count(int)", "int drawn(int)", "int feed(int)", "int fewest(int)", "int film(int,int)", "int fit(int)",
        "int force(int)", "int image()", "int life(int,int)", "int next(int)", "int safest(int)",
        "int set(int,int,int)", "int sheet(int,int,int)", "int taken(int,int)", "int tells(int,int,int)",
        "int text()", "int told(int,int)", "int witness(int,int,int)", "int witnesses(int,int,int,int)",
        "int wrong()", "long chance(int,int,int,int)"};
    private static final String[] WORDS = {
        "throw", "throws", "try", "catch", "finally", "synchronized", "assert", "volatile", "transient", "native",
        "var", "record", "sealed", "Object", "Exception", "Thread", "System.out", "System.exit", "nanoTime",
        "currentTimeMillis", "Random", "HashMap", "Map", "Set", "Collections", "Stream", "hashCode", "toString"};
    private static int wrong = 0;

    private static void due(String what, Object got, Object want) {
        if (!got.equals(want)) {
            wrong++;
            System.out.println(what + " is " + got + ", due is " + want);
        }
    }

    public static void main(String[] args) throws Exception {
        Class<?> c = ToldByWitnesses.class;
        due("the class's modifiers", c.getModifiers(), Modifier.PUBLIC | Modifier.FINAL);
        due("constructors", c.getDeclaredConstructors().length, 1);
        Constructor<?> made = c.getDeclaredConstructors()[0];
        due("the constructor", Modifier.isPublic(made.getModifiers()) && made.getParameterCount() == 0, true);
        methods(c);
        fields(c);
        for (Class<?> inside : c.getDeclaredClasses()) {
            due(inside + " is static", Modifier.isStatic(inside.getModifiers()), true);
            due(inside + " is shown", inside.getModifiers() & (Modifier.PUBLIC | Modifier.PROTECTED), 0);
            few(inside);
        }
        few(c);
        due("at most twelve classes", c.getDeclaredClasses().length + 1 <= 12, true);
        source(Files.readString(SOURCE, StandardCharsets.ISO_8859_1));
        System.out.println("FaceTest: " + wrong + " wrong");
        if (wrong != 0) {
            System.exit(1);
        }
    }

    private static void methods(Class<?> c) {
        Set<String> face = new TreeSet<>();
        Set<String> open = new TreeSet<>();
        List<Method> hidden = new ArrayList<>();
        for (Method m : c.getDeclaredMethods()) {
            if (Modifier.isPublic(m.getModifiers())) {
                StringBuilder b = new StringBuilder(m.getReturnType() + " " + m.getName() + "(");
                for (Class<?> p : m.getParameterTypes()) {
                    b.append(b.charAt(b.length() - 1) == '(' ? "" : ",").append(p);
                }
                face.add(b.append(')').toString());
                open.add(m.getName());
            } else {
                hidden.add(m);
            }
        }
        due("the public methods", face, new TreeSet<>(Set.of(FACE)));
        for (Class<?> inside : c.getDeclaredClasses()) {
            hidden.addAll(List.of(inside.getDeclaredMethods()));
        }
        for (Method m : hidden) {
            due(m + " bears a public one's name", open.contains(m.getName()), false);
            due(m + " takes seven at most", m.getParameterCount() <= 7, true);
            if (m.getDeclaringClass() == c) {
                due(m + " is private", Modifier.isPrivate(m.getModifiers()), true);
            }
        }
    }

    private static void fields(Class<?> c) throws Exception {
        String[] names = {"NONE", "BAD", "STATE", "FULL"};
        for (int i = 0; i < names.length; i++) {
            Field f = c.getField(names[i]);
            due(names[i], f.getInt(null), -1 - i);
            due(names[i] + "'s type", f.getType(), int.class);
        }
        due("NO", c.getField("NO").getLong(null), -4611686018427387904L);
        due("public fields", c.getFields().length, 5);
        for (Field f : c.getDeclaredFields()) {
            if (!Modifier.isPublic(f.getModifiers())) {
                due(f + " is private", Modifier.isPrivate(f.getModifiers()), true);
            }
        }
    }

    /** Fields beside constants: twenty; static ones are final. */
    private static void few(Class<?> c) {
        int own = 0;
        for (Field f : c.getDeclaredFields()) {
            if (Modifier.isStatic(f.getModifiers())) {
                due(f + " is final", Modifier.isFinal(f.getModifiers()), true);
            } else {
                own++;
            }
        }
        due(c + " has twenty fields at most", own <= 20, true);
    }

    private static void source(String text) {
        String code = text.replaceAll("(?s)/\\*.*?\\*/", "").replaceAll("//[^\n]*", "");
        for (String word : WORDS) {
            Matcher m = Pattern.compile("\\b" + Pattern.quote(word) + "\\b").matcher(code);
            due("the word " + word + " stands there", m.find(), false);
        }
        due("a lambda or a new switch", code.contains("->"), false);
        due("a method reference", code.contains("::"), false);
        due("a package line", code.contains("package "), false);
        for (int i = 0; i < text.length(); i++) {
            char sign = text.charAt(i);
            due("a sign's number at " + i, sign == 10 || sign >= 32 && sign < 127, true);
        }
        Matcher imports = Pattern.compile("import ([^;]*);").matcher(code);
        while (imports.find()) {
            due("an import", Set.of("java.util.Arrays", "java.util.ArrayList", "java.util.List").contains(imports.group(1)),
                    true);
        }
        methodsAreShort(text);
    }

    private static void methodsAreShort(String text) {
        String[] lines = text.split("\n");
        int from = -1;
        int depth = 0;
        for (int i = 0; i < lines.length; i++) {
            if (from < 0 && lines[i].matches(" +[\\w<>\\[\\] ]+\\([^;]*\\) \\{") && !lines[i].matches(" +(if|for|while|switch|else).*")) {
                from = i;
                depth = lines[i].indexOf(lines[i].trim());
            } else if (from >= 0 && lines[i].equals(" ".repeat(depth) + "}")) {
                due("the method at line " + (from + 1) + " has sixty lines at most", i - from < 60, true);
                from = -1;
            }
        }
    }
}
