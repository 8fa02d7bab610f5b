import java.io.IOException;
import java.lang.reflect.Constructor;
import java.lang.reflect.Field;
import java.lang.reflect.Method;
import java.lang.reflect.Modifier;
import java.nio.file.Files;
import java.nio.file.Path;
import java.util.ArrayList;
import java.util.Arrays;
import java.util.HashSet;
import java.util.List;
import java.util.Set;
import java.util.TreeSet;
import java.util.regex.Matcher;
import java.util.regex.Pattern;
import java.util.stream.Collectors;

/** The public face as the document writes it, and what of ../shared/LANGUAGE.md a look at the class can tell. */
public final class LanguageTest {
    private static final Path DOCUMENT = Path.of("../shared/DOC.md");
    private static final Path SOURCE = Path.of("src/main/java/Fishpier.java");
    private static final String[] WORDS_RULED_OUT = {
        "catch", "finally", "synchronized", "assert", "->", "::", "Exact(", "floatToIntBits", "doubleToLongBits",
        "floatToRawIntBits", "String.format", "System.currentTimeMillis", "System.nanoTime", "Random", "getMessage",
        "hashCode", "equals(", "toString", "Float.", "Double.", "package ",
    };

    private static final Checks CHECKS = new Checks("LanguageTest");

    private LanguageTest() {
    }

    public static void main(String[] args) throws IOException {
        faceIsTheDocuments();
        nothingElseIsOpen();
        classesAndFieldsKeepToTheLanguage();
        sourceKeepsToTheLanguage();
        methodsStayShort();
        CHECKS.end();
    }

    private static void faceIsTheDocuments() throws IOException {
        String text = Files.readString(DOCUMENT);
        String face = text.substring(text.indexOf("```java"), text.indexOf("```", text.indexOf("```java") + 3));
        Set<String> due = new TreeSet<>();
        Matcher line = Pattern.compile("public (\\w+) (\\w+)\\(([^)]*)\\)(?: throws ([^;]+))?;").matcher(face);
        while (line.find()) {
            String kinds = Arrays.stream(line.group(3).split(",\\s*")).map(part -> part.split(" ")[0])
                    .collect(Collectors.joining(","));
            String thrown = line.group(4) == null ? "" : line.group(4).replace(" ", "");
            due.add(line.group(1) + " " + line.group(2) + "(" + kinds + ") " + thrown);
        }
        Set<String> got = new TreeSet<>();
        for (Method method : Fishpier.class.getDeclaredMethods()) {
            if (Modifier.isPublic(method.getModifiers())) {
                got.add(method.getReturnType().getName() + " " + method.getName() + "("
                        + names(method.getParameterTypes()) + ") " + names(method.getExceptionTypes()));
            }
        }
        CHECKS.is("the document has 36 methods", 36, due.size());
        CHECKS.is("the face", due.toString(), got.toString());
        CHECKS.is("the class is public and final", Modifier.PUBLIC | Modifier.FINAL, Fishpier.class.getModifiers());
    }

    private static String names(Class<?>[] classes) {
        return Arrays.stream(classes).map(Class::getSimpleName).collect(Collectors.joining(","));
    }

    private static void nothingElseIsOpen() {
        Set<String> open = new HashSet<>();
        for (Method method : Fishpier.class.getDeclaredMethods()) {
            if (Modifier.isPublic(method.getModifiers())) {
                open.add(method.getName());
            }
        }
        for (Method method : Fishpier.class.getDeclaredMethods()) {
            boolean isOpen = Modifier.isPublic(method.getModifiers());
            CHECKS.is(method + " is private or of the face", true, isOpen || Modifier.isPrivate(method.getModifiers()));
            CHECKS.is(method + " has its own name", true, isOpen || !open.contains(method.getName()));
            CHECKS.is(method + " has at most seven parameters", true, method.getParameterCount() <= 7);
        }
        for (Field field : Fishpier.class.getDeclaredFields()) {
            CHECKS.is(field + " is private", true, Modifier.isPrivate(field.getModifiers()));
        }
        Constructor<?>[] constructors = Fishpier.class.getDeclaredConstructors();
        CHECKS.is("one constructor", 1, constructors.length);
        CHECKS.is("without parameters", 0, constructors[0].getParameterCount());
    }

    private static void classesAndFieldsKeepToTheLanguage() {
        List<Class<?>> all = new ArrayList<>(Arrays.asList(Fishpier.class.getDeclaredClasses()));
        CHECKS.is("at most twelve classes", true, all.size() <= 11);
        for (Class<?> inside : all) {
            int open = inside.getModifiers() & (Modifier.PUBLIC | Modifier.PROTECTED);
            CHECKS.is(inside + " is not open", 0, open);
            CHECKS.is(inside + " is static", true, Modifier.isStatic(inside.getModifiers()));
            for (Constructor<?> constructor : inside.getDeclaredConstructors()) {
                CHECKS.is(constructor + " has at most seven parameters", true, constructor.getParameterCount() <= 7);
            }
        }
        all.add(Fishpier.class);
        for (Class<?> owner : all) {
            int fields = 0;
            for (Field field : owner.getDeclaredFields()) {
                if (Modifier.isStatic(field.getModifiers())) {
                    CHECKS.is(field + " is final", true, Modifier.isFinal(field.getModifiers()));
                    CHECKS.is(field + " is int or char", true,
                            field.getType() == int.class || field.getType() == char.class);
                } else {
                    fields++;
                }
            }
            CHECKS.is(owner + " has at most twenty fields", true, fields <= 20);
        }
    }

    private static void sourceKeepsToTheLanguage() throws IOException {
        String code = codeOnly(Files.readString(SOURCE));
        for (String word : WORDS_RULED_OUT) {
            CHECKS.is("'" + word + "' is not in the code", false, code.contains(word));
        }
        Matcher imported = Pattern.compile("import ([\\w.]+);").matcher(code);
        while (imported.find()) {
            CHECKS.is("import", "java.util.NoSuchElementException", imported.group(1));
        }
        Matcher library = Pattern.compile("\\b(Math|System|Arrays|Integer|Long)\\.(\\w+)").matcher(code);
        while (library.find()) {
            String call = library.group(1) + "." + library.group(2);
            CHECKS.is(call + " is in the library", true,
                    Set.of("Math.min", "Math.max", "System.arraycopy").contains(call));
        }
        for (char sign : code.toCharArray()) {
            if (sign > 127) {
                CHECKS.is("a sign above 127", 0, sign);
            }
        }
    }

    private static String codeOnly(String source) {
        return source.replaceAll("(?s)/\\*.*?\\*/", "").replaceAll("//[^\n]*", "").replaceAll("\"[^\"\n]*\"", "\"\"");
    }

    private static void methodsStayShort() throws IOException {
        List<String> lines = Files.readAllLines(SOURCE);
        methodsAtDepthStayShort(lines, "    ", "(public|private) .*\\(.*");
        methodsAtDepthStayShort(lines, "        ", "(\\w[\\w\\[\\]]* )*\\w+\\(.*\\{");
    }

    private static void methodsAtDepthStayShort(List<String> lines, String indent, String head) {
        int begin = 0;
        int found = 0;
        for (int number = 1; number <= lines.size(); number++) {
            String line = lines.get(number - 1);
            if (line.matches(indent + head)) {
                begin = number;
                found++;
            }
            if (line.equals(indent + "}")) {
                CHECKS.is("the method that ends in line " + number + " is short", true,
                        begin == 0 || number - begin <= 60);
                begin = 0;
            }
        }
        CHECKS.is("methods are found at the depth " + indent.length(), true, found > 10);
    }
}
