import java.io.IOException;
import java.lang.reflect.Field;
import java.lang.reflect.Method;
import java.lang.reflect.Modifier;
import java.nio.file.Files;
import java.nio.file.Path;
import java.util.Arrays;
import java.util.Set;
import java.util.TreeSet;
import java.util.regex.Matcher;
import java.util.regex.Pattern;

/** The face of the document, and rules of LANGUAGE.md that can be read off the class and its file. */
public final class FaceTest {
    private static final Due D = new Due();
    private static final Path SOURCE = Path.of("src/main/java/TitleMimes.java");
    private static final Path DOCUMENT = Path.of("../shared/DOC.md");

    public static void main(String[] args) throws IOException {
        Set<String> face = face();
        Set<String> asked = asked();
        if (asked.size() != 56 || !face.equals(asked)) {
            D.fail("the public methods are " + face + ", due are " + asked);
        }
        members();
        words();
        D.finish();
    }

    private static String signature(String type, String name, String[] parameters) {
        return type + " " + name + Arrays.toString(parameters);
    }

    private static Set<String> face() {
        Set<String> face = new TreeSet<>();
        for (Method m : TitleMimes.class.getDeclaredMethods()) {
            String[] parameters = Arrays.stream(m.getParameterTypes()).map(Class::getName).toArray(String[]::new);
            if (Modifier.isPublic(m.getModifiers())) {
                face.add(signature(m.getReturnType().getName(), m.getName(), parameters));
            }
        }
        return face;
    }

    /** The methods of the block of code in the document. */
    private static Set<String> asked() throws IOException {
        Set<String> asked = new TreeSet<>();
        Matcher line = Pattern.compile("(?m)^    public (\\w+) (\\w+)\\((.*)\\);$").matcher(Files.readString(DOCUMENT));
        while (line.find()) {
            String[] parameters = line.group(3).isEmpty() ? new String[0] : line.group(3).split(", ");
            for (int k = 0; k < parameters.length; k++) {
                parameters[k] = parameters[k].split(" ")[0];
            }
            asked.add(signature(line.group(1), line.group(2), parameters));
        }
        return asked;
    }

    private static void members() {
        Class<?> c = TitleMimes.class;
        if (!Modifier.isFinal(c.getModifiers()) || c.getConstructors().length != 1 || c.getDeclaredConstructors().length != 1) {
            D.fail("the class is final and has one constructor, a public one");
        }
        for (Field f : c.getDeclaredFields()) {
            if (!Modifier.isPrivate(f.getModifiers())) {
                D.fail("field " + f.getName() + " is not private");
            }
        }
        Set<String> open = new TreeSet<>();
        Set<String> hidden = new TreeSet<>();
        for (Method m : c.getDeclaredMethods()) {
            (Modifier.isPublic(m.getModifiers()) ? open : hidden).add(m.getName());
            if (!Modifier.isPublic(m.getModifiers()) && !Modifier.isPrivate(m.getModifiers())) {
                D.fail("method " + m.getName() + " is neither public nor private");
            }
        }
        for (Class<?> inner : c.getDeclaredClasses()) {
            if (!Modifier.isStatic(inner.getModifiers())) {
                D.fail("class " + inner.getName() + " is not static");
            }
            for (Method m : inner.getDeclaredMethods()) {
                hidden.add(m.getName());
            }
        }
        hidden.retainAll(open);
        if (!hidden.isEmpty()) {
            D.fail("names of public methods borne by others: " + hidden);
        }
    }

    private static void words() throws IOException {
        String code = Files.readString(SOURCE).replaceAll("(?s)/\\*.*?\\*/", "").replaceAll("//.*", "");
        String[] ruledOut = {
            "throw", "throws", "try", "catch", "synchronized", "assert", "package", "import", "protected",
            "->", "::", "[a-z]Exact", "System\\.out", "hashCode", "toString"};
        for (String word : ruledOut) {
            String pattern = Character.isLetter(word.charAt(0)) ? "\\b" + word + "\\b" : word;
            if (Pattern.compile(pattern).matcher(code).find()) {
                D.fail("the class has '" + word + "'");
            }
        }
    }
}
