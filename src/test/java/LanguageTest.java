import java.io.IOException;
import java.lang.reflect.Constructor;
import java.lang.reflect.Field;
import java.lang.reflect.Method;
import java.lang.reflect.Modifier;
import java.nio.charset.StandardCharsets;
import java.nio.file.Files;
import java.nio.file.Path;
import java.util.HashSet;
import java.util.List;
import java.util.Set;
import java.util.TreeSet;
import java.util.regex.Matcher;
import java.util.regex.Pattern;

/** What can be seen of the language's rules from outside: the face, the words of the source, the sizes. */
public final class LanguageTest {
    private static final List<String> FACE = List.of("public int feed(int,int,int,int,int)",
            "public boolean number(int,int,int)", "public int formula(int,int,int)", "public boolean clear(int,int)",
            "public boolean input(int)", "public boolean wants(int,int)", "public int world()",
            "public boolean give(int,int,int)", "public long value(int,int,int)", "public int error(int,int,int)",
            "public long right(int,int,int)", "public int rightError(int,int,int)", "public int kind(int,int)",
            "public int points(int,int)", "public int slip(int,int,int)", "public int fault(int,int)",
            "public int copied(int,int,int)", "public int look(int,int,int)", "public int count(int)");
    private static final List<String> NOT_SPOKEN = List.of("throw", "throws", "try", "catch", "finally", "assert",
            "synchronized", "volatile", "native", "import", "package", "instanceof", "String", "System", "Object",
            "->", "::", "protected", "float", "double", "NaN", "Exact(", "hashCode", "toString", "while (true)");
    private static final List<String> LIBRARY = List.of("Math.abs", "Math.floorDiv", "Math.max", "Math.min",
            "Long.bitCount", "SIGNS.length");
    private static int wrong = 0;

    public static void main(String[] args) throws IOException {
        face();
        insides();
        words(Files.readString(Path.of("src/main/java/SheetMarker.java"), StandardCharsets.ISO_8859_1));
        System.out.println(wrong == 0 ? "the language is kept to" : wrong + " rules are broken");
        if (wrong != 0) {
            System.exit(1);
        }
    }

    private static void must(boolean held, String what) {
        if (!held) {
            wrong++;
            System.out.println("broken: " + what);
        }
    }

    private static void face() {
        Class<?> face = SheetMarker.class;
        must(Modifier.isPublic(face.getModifiers()) && Modifier.isFinal(face.getModifiers()), "public and final");
        Set<String> open = new TreeSet<>();
        for (Method method : face.getDeclaredMethods()) {
            if (!Modifier.isPrivate(method.getModifiers())) {
                open.add(method.toString().replace("SheetMarker.", ""));
            }
        }
        must(open.equals(new TreeSet<>(FACE)), "the face's methods: " + open);
        Constructor<?>[] made = face.getDeclaredConstructors();
        must(made.length == 1 && made[0].toString().equals("public SheetMarker()"), "the one constructor");
        for (Field field : face.getDeclaredFields()) {
            boolean constant = field.toString().equals("public static final int SheetMarker.NONE");
            must(constant || Modifier.isPrivate(field.getModifiers()), "no open field but NONE: " + field);
        }
        must(SheetMarker.NONE == -1, "NONE is -1");
    }

    private static void insides() {
        Set<String> told = new HashSet<>();
        for (String line : FACE) {
            told.add(line.substring(line.lastIndexOf(' ') + 1, line.indexOf('(')));
        }
        Class<?>[] inside = SheetMarker.class.getDeclaredClasses();
        must(inside.length <= 12, "some twelve classes");
        sizes(SheetMarker.class);
        for (Class<?> one : inside) {
            must(Modifier.isStatic(one.getModifiers()), "a static class: " + one);
            must(one.getDeclaredClasses().length == 0, "no class inside: " + one);
            sizes(one);
            for (Method method : one.getDeclaredMethods()) {
                must(!told.contains(method.getName()), "no name of the face inside: " + method);
            }
        }
    }

    private static void sizes(Class<?> one) {
        int fields = 0;
        for (Field field : one.getDeclaredFields()) {
            boolean fixed = Modifier.isStatic(field.getModifiers());
            fields += fixed ? 0 : 1;
            must(!fixed || Modifier.isFinal(field.getModifiers()), "no static state: " + field);
        }
        must(fields <= 20, "some twenty fields: " + one);
        for (Method method : one.getDeclaredMethods()) {
            must(method.getParameterCount() <= 7, "seven parameters at most: " + method);
        }
    }

    private static void words(String source) {
        String code = source.replaceAll("(?s)/\\*.*?\\*/", " ").replaceAll("//[^\n]*", " ");
        for (String word : NOT_SPOKEN) {
            boolean plain = Character.isLetter(word.charAt(0)) && Character.isLetter(word.charAt(word.length() - 1));
            boolean there = plain ? code.matches("(?s).*\\b" + word + "\\b.*") : code.contains(word);
            must(!there, "not to be spoken: " + word);
        }
        Matcher library = Pattern.compile("\\b[A-Z]\\w*\\.\\w+").matcher(code);
        while (library.find()) {
            must(LIBRARY.contains(library.group()), "not of the library's part: " + library.group());
        }
        int length = 0;
        for (String line : source.split("\n")) {
            length = line.matches("( {4}){1,2}[^ /*@}].*\\{") ? 0 : length + 1;
            must(length <= 60 || !line.startsWith("        "), "short methods: " + line);
            must(line.length() <= 120, "short lines: " + line);
        }
    }
}
