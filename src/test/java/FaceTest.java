import java.io.IOException;
import java.lang.reflect.Constructor;
import java.lang.reflect.Field;
import java.lang.reflect.Method;
import java.lang.reflect.Modifier;
import java.nio.file.Files;
import java.nio.file.Path;
import java.util.Arrays;
import java.util.Set;
import java.util.TreeSet;
import java.util.regex.Matcher;
import java.util.regex.Pattern;

/** The class has the document's face and no other; its text has none of the words that the language leaves out. */
public final class FaceTest {
    private static final String[] FACE = {
        "boolean table(int, int)", "boolean cloth(int)", "boolean thing(int, int, int, int, int, int)", "boolean more(int, int, int, int)",
        "boolean away(int)", "int feed(int, int, int, int, int)", "int pull(int)", "int law(int)", "int tried(int)", "int still(int)", "int done()",
        "int thingIs(int, int)", "int pace()", "int best(int)", "int put(int, int)", "int most(int)", "int worth(int, int)", "int wasWet(int)",
        "int howQuick(int)", "int odds(int, int, int)", "int should(int, int)", "int practice(int, int, int)", "boolean seed(int)", "int keep()",
        "boolean undo()", "int check(int)", "int count(int)"};
    private static final Due due = new Due();

    public static void main(String[] args) throws IOException {
        due.is("public final", ClothPull.class.getModifiers(), Modifier.PUBLIC | Modifier.FINAL);
        Set<String> publicOnes = new TreeSet<>();
        Set<String> names = new TreeSet<>();
        for (Method m : ClothPull.class.getDeclaredMethods()) {
            if (Modifier.isPrivate(m.getModifiers())) continue;
            due.is(m + " is public and of the object", m.getModifiers(), Modifier.PUBLIC);
            String parameters = Arrays.toString(m.getParameterTypes());
            publicOnes.add(m.getReturnType() + " " + m.getName() + "(" + parameters.substring(1, parameters.length() - 1) + ")");
            names.add(m.getName());
        }
        Set<String> wanted = new TreeSet<>(Arrays.asList(FACE));
        due.is("the methods " + publicOnes, publicOnes.equals(wanted), true);
        for (Method m : ClothPull.class.getDeclaredMethods()) {
            if (Modifier.isPrivate(m.getModifiers())) due.is(m + " bears a public one's name", names.contains(m.getName()), false);
        }
        for (Field f : ClothPull.class.getDeclaredFields()) {
            if (f.getName().equals("NONE")) {
                due.is("NONE", f.getModifiers(), Modifier.PUBLIC | Modifier.STATIC | Modifier.FINAL);
            } else {
                due.is(f + " is private", Modifier.isPrivate(f.getModifiers()), true);
            }
        }
        Constructor<?>[] makers = ClothPull.class.getDeclaredConstructors();
        due.is("one constructor", makers.length, 1);
        due.is("it is public, of nothing", makers[0].getModifiers() + makers[0].getParameterCount(), Modifier.PUBLIC);
        for (Class<?> c : ClothPull.class.getDeclaredClasses()) {
            due.is(c + " is private and static", c.getModifiers() & (Modifier.PRIVATE | Modifier.STATIC), Modifier.PRIVATE | Modifier.STATIC);
        }
        due.is("some twelve classes", ClothPull.class.getDeclaredClasses().length < 12, true);
        shapes(ClothPull.class);
        for (Class<?> c : ClothPull.class.getDeclaredClasses()) shapes(c);
        String text = code();
        words(text);
        library(text);
        indexes(text);
        news(text);
        lengths(text);
        due.end();
    }

    /** What LANGUAGE.md says of fields, parameters and names, class by class. */
    private static void shapes(Class<?> c) {
        for (Field f : c.getDeclaredFields()) {
            if (Modifier.isStatic(f.getModifiers())) due.is(f + " is final", Modifier.isFinal(f.getModifiers()), true);
        }
        int fields = 0;
        for (Field f : c.getDeclaredFields()) if (!Modifier.isStatic(f.getModifiers())) fields++;
        due.is(c + " has some twenty fields", fields <= 20, true);
        for (Constructor<?> m : c.getDeclaredConstructors()) due.is(m + "'s parameters", m.getParameterCount() <= 7, true);
        Set<String> face = new TreeSet<>();
        for (String call : FACE) face.add(call.replaceAll("\\w+ (\\w+)\\(.*", "$1"));
        for (Method m : c.getDeclaredMethods()) {
            due.is(m + "'s parameters", m.getParameterCount() <= 7, true);
            if (c != ClothPull.class) due.is(m + " bears a public one's name", face.contains(m.getName()), false);
        }
    }

    /** The class's text without what is said in comments. */
    private static String code() throws IOException {
        String text = Files.readString(Path.of("src/main/java/ClothPull.java"));
        return text.replaceAll("(?s)/\\*.*?\\*/", "").replaceAll("//[^\n]*", "");
    }

    private static void words(String text) {
        for (String word : new String[] {"throw", "throws", "try", "catch", "synchronized", "assert", "import", "package", "lambda", "volatile", "native", "System.out",
            "Exact", "Random", "Thread", "double", "float", "->", "::", "hashCode", "toString", "new Object", "goto"}) {
            boolean there = word.matches("\\w+") ? text.matches("(?s).*\\b" + word + "\\b.*") : text.contains(word);
            due.is("the text has " + word, there, false);
        }
        due.is("signs above 127", text.chars().anyMatch(c -> c > 127), false);
    }

    /** No call of the library but those that the class needs, all of which LANGUAGE.md lists. */
    private static void library(String text) {
        Set<String> own = new TreeSet<>();
        for (Class<?> c : ClothPull.class.getDeclaredClasses()) own.add(c.getSimpleName());
        Set<String> listed = Set.of("Math.abs", "Math.max", "Math.min", "Integer.bitCount", "System.arraycopy");
        Matcher m = Pattern.compile("\\b([A-Z][a-z]\\w*)\\.(\\w+)").matcher(text);
        while (m.find()) {
            if (!own.contains(m.group(1))) due.is(m.group() + " is listed", listed.contains(m.group()), true);
        }
    }

    /** What stands in a row is not an index as it is: nothing has looked at it. */
    private static void indexes(String text) {
        due.is("an index out of a row", Pattern.compile("\\[[^\\[\\]\n]*\\w\\[").matcher(text).find(), false);
    }

    /** All rows and objects are made with the object: none by a call. */
    private static void news(String text) {
        for (String line : text.split("\n")) {
            if (!line.contains("new ")) continue;
            boolean once = line.trim().startsWith("private final ") || line.trim().equals("evening = new Evening(law);");
            due.is("made but once: " + line.trim(), once, true);
        }
    }

    private static void lengths(String text) {
        Matcher m = Pattern.compile("(?m)^( +)(?:public |private |static )*[\\w\\[\\]]+ \\w+\\([^)\n]*\\) \\{\n").matcher(text);
        int methods = 0;
        while (m.find()) {
            int end = text.indexOf("\n" + m.group(1) + "}\n", m.end() - 1);
            long lines = text.substring(m.start(), end).chars().filter(c -> c == '\n').count();
            due.is("short: " + m.group().trim(), lines <= 60, true);
            methods++;
        }
        due.is("methods seen", methods > 100, true);
    }
}
