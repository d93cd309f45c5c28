import java.io.IOException;
import java.lang.reflect.Constructor;
import java.lang.reflect.Field;
import java.lang.reflect.Method;
import java.lang.reflect.Modifier;
import java.nio.charset.StandardCharsets;
import java.nio.file.Files;
import java.nio.file.Path;
import java.util.HashSet;
import java.util.Set;
import java.util.TreeSet;
import java.util.regex.Matcher;
import java.util.regex.Pattern;

/** The public face as the document tells it, and those rules of LANGUAGE.md that the text shows. */
public final class FaceTest {
    private static final String[] FACE = {
        "choir int int int int", "day int", "song int int int int", "judge int", "mark int int int", "mean int",
        "scale int int", "about int int", "voice int int", "feed long int", "rule", "may int int", "why int int",
        "vote int int", "leader int", "stage int int", "tall int int", "stand int int int", "off int", "well int",
        "clear", "lay int int", "change int int", "order int", "ordered int", "rehearse int int int int",
        "hall int int", "whole int", "beds int int", "sleep int int", "bed int", "march int", "leave int",
        "gap int", "count int",
    };
    private static int wrong = 0;

    private static void want(boolean holds, String what) {
        if (!holds) {
            wrong++;
            System.out.println("does not hold: " + what);
        }
    }

    public static void main(String[] args) throws IOException {
        constants();
        methods();
        nested();
        source(Files.readString(Path.of("src/main/java/SongField.java"), StandardCharsets.UTF_8));
        System.out.println(wrong == 0 ? "the face is as due" : wrong + " faults");
        if (wrong != 0) {
            System.exit(1);
        }
    }

    private static void constants() {
        want(SongField.NONE == -1 && SongField.BAD == -2, "NONE is -1, BAD is -2");
        want(SongField.STATE == -3 && SongField.FULL == -4, "STATE is -3, FULL is -4");
        Set<String> open = new TreeSet<>();
        for (Field field : SongField.class.getDeclaredFields()) {
            if (!Modifier.isPrivate(field.getModifiers())) {
                open.add(Modifier.toString(field.getModifiers()) + " " + field.getType() + " " + field.getName());
            }
            boolean still = !Modifier.isStatic(field.getModifiers()) || Modifier.isFinal(field.getModifiers());
            want(still, "static fields are final: " + field.getName());
        }
        String head = "public static final int ";
        want(open.equals(Set.of(head + "NONE", head + "BAD", head + "STATE", head + "FULL")), "four constants: " + open);
    }

    private static void methods() {
        want(Modifier.isPublic(SongField.class.getModifiers()), "the class is public");
        want(Modifier.isFinal(SongField.class.getModifiers()), "the class is final");
        Constructor<?>[] made = SongField.class.getDeclaredConstructors();
        want(made.length == 1 && made[0].getParameterCount() == 0, "one constructor");
        want(made.length == 1 && Modifier.isPublic(made[0].getModifiers()), "it is public");
        Set<String> open = new TreeSet<>();
        Set<String> hidden = new HashSet<>();
        for (Method method : SongField.class.getDeclaredMethods()) {
            if (Modifier.isPrivate(method.getModifiers())) {
                hidden.add(method.getName());
                continue;
            }
            StringBuilder text = new StringBuilder(method.getName());
            for (Class<?> type : method.getParameterTypes()) {
                text.append(' ').append(type);
            }
            open.add(text.toString());
            want(method.getReturnType() == int.class, "int is answered by " + text);
            want(method.getModifiers() == Modifier.PUBLIC, "public alone is " + text);
        }
        want(open.equals(new TreeSet<>(Set.of(FACE))), "the methods: " + open);
        for (String line : FACE) {
            want(!hidden.contains(line.split(" ")[0]), "no private method bears the name of " + line);
        }
    }

    private static void nested() {
        Class<?>[] inside = SongField.class.getDeclaredClasses();
        want(inside.length <= 11, "some twelve classes at most");
        for (Class<?> one : inside) {
            want(Modifier.isStatic(one.getModifiers()), "static: " + one.getName());
            want(one.getDeclaredFields().length <= 20, "some twenty fields: " + one.getName());
            for (Method method : one.getDeclaredMethods()) {
                for (String line : FACE) {
                    want(!line.split(" ")[0].equals(method.getName()), "a name of the face: " + method);
                }
            }
        }
    }

    private static void source(String text) {
        String bare = text.replaceAll("(?s)/\\*.*?\\*/", " ").replaceAll("//[^\n]*", " ")
                .replaceAll("\"[^\"]*\"", "\"\"").replaceAll("'[^']*'", "'0'");
        String[] words = {"throw", "throws", "try", "catch", "finally", "synchronized", "assert", "hashCode", "toString"};
        for (String word : words) {
            want(!Pattern.compile("\\b" + word + "\\b").matcher(bare).find(), "no " + word);
        }
        want(!bare.contains("->") && !bare.contains("::"), "no lambda, no method reference");
        want(!bare.contains("Exact("), "nothing that ends in Exact");
        Matcher imports = Pattern.compile("import ([^;]*);").matcher(bare);
        while (imports.find()) {
            want(imports.group(1).equals("java.util.Arrays"), "import " + imports.group(1));
        }
        want(!Pattern.compile("(?m)^package").matcher(bare).find(), "no package");
        library(bare);
        shortMethods(bare);
    }

    private static void library(String bare) {
        Set<String> allowed = Set.of("Math.min", "Math.max", "Math.floorDiv", "Integer.bitCount",
                "Arrays.fill", "System.arraycopy");
        // A name that begins with a great letter and is no constant is a class, the library's or our own.
        Matcher call = Pattern.compile("\\b([A-Z][a-z]\\w*)\\s*\\.\\s*(\\w+)").matcher(bare);
        while (call.find()) {
            want(allowed.contains(call.group(1) + "." + call.group(2)), "of the library: " + call.group());
        }
        Matcher list = Pattern.compile("\\(([^()]*)\\) \\{").matcher(bare);
        while (list.find()) {
            want(list.group(1).split(",").length <= 7, "seven parameters at most: " + list.group(1));
        }
    }

    private static void shortMethods(String bare) {
        Matcher method = Pattern.compile("(?m)^( +)(?:[\\w\\[\\]]+ )+\\w+\\([^)]*\\) \\{\n((?s:.*?))^\\1\\}").matcher(bare);
        int seen = 0;
        while (method.find()) {
            seen++;
            want(method.group(2).lines().count() <= 60, "short: " + method.group().lines().findFirst());
        }
        want(seen > 80, "methods were found: " + seen);
    }
}
