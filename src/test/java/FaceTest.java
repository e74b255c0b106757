import java.io.IOException;
import java.lang.reflect.Constructor;
import java.lang.reflect.Field;
import java.lang.reflect.Method;
import java.lang.reflect.Modifier;
import java.nio.file.Files;
import java.nio.file.Path;
import java.util.Arrays;
import java.util.Set;
import java.util.TreeSet;

/** The class has the document's face and no other; its text has none of the words that the language leaves out. */
public final class FaceTest {
    private static final String[] FACE = {
        "boolean table(int, int)", "boolean cloth(int)", "boolean thing(int, int, int, int, int, int)", "boolean more(int, int, int, int)",
        "boolean away(int)", "int feed(int, int, int, int, int)", "int pull(int)", "int law(int)", "int tried(int)", "int still(int)", "int done()",
        "int thingIs(int, int)", "int pace()", "int best(int)", "int put(int, int)", "int most(int)", "int worth(int, int)", "int wasWet(int)",
        "int howQuick(int)", "int odds(int, int, int)", "int should(int, int)", "int practice(int, int, int)", "boolean seed(int)", "int keep()",
        "boolean undo()", "int check(int)", "int count(int)"};
    private static final Due due = new Due();

    public static void main(String[] args) throws IOException {
        due.is("public final", ClothPull.class.getModifiers(), Modifier.PUBLIC | Modifier.FINAL);
        Set<String> publicOnes = new TreeSet<>();
        Set<String> names = new TreeSet<>();
        for (Method m : ClothPull.class.getDeclaredMethods()) {
            if (Modifier.isPrivate(m.getModifiers())) continue;
            due.is(m + " is public and of the object", m.getModifiers(), Modifier.PUBLIC);
            String parameters = Arrays.toString(m.getParameterTypes());
            publicOnes.add(m.getReturnType() + " " + m.getName() + "(" + parameters.substring(1, parameters.length() - 1) + ")");
            names.add(m.getName());
        }
        Set<String> wanted = new TreeSet<>(Arrays.asList(FACE));
        due.is("the methods " + publicOnes, publicOnes.equals(wanted), true);
        for (Method m : ClothPull.class.getDeclaredMethods()) {
            if (Modifier.isPrivate(m.getModifiers())) due.is(m + " bears a public one's name", names.contains(m.getName()), false);
        }
        for (Field f : ClothPull.class.getDeclaredFields()) {
            if (f.getName().equals("NONE")) {
                due.is("NONE", f.getModifiers(), Modifier.PUBLIC | Modifier.STATIC | Modifier.FINAL);
            } else {
                due.is(f + " is private", Modifier.isPrivate(f.getModifiers()), true);
            }
        }
        Constructor<?>[] makers = ClothPull.class.getDeclaredConstructors();
        due.is("one constructor", makers.length, 1);
        due.is("it is public, of nothing", makers[0].getModifiers() + makers[0].getParameterCount(), Modifier.PUBLIC);
        for (Class<?> c : ClothPull.class.getDeclaredClasses()) {
            due.is(c + " is private and static", c.getModifiers() & (Modifier.PRIVATE | Modifier.STATIC), Modifier.PRIVATE | Modifier.STATIC);
            due.is(c + " has some twenty fields", c.getDeclaredFields().length < 40, true);
        }
        due.is("some twelve classes", ClothPull.class.getDeclaredClasses().length < 12, true);
        words();
        due.end();
    }

    private static void words() throws IOException {
        String text = Files.readString(Path.of("src/main/java/ClothPull.java"));
        text = text.replaceAll("(?s)/\\*.*?\\*/", "").replaceAll("//[^\n]*", "");
        for (String word : new String[] {"throw", "throws", "try", "catch", "synchronized", "assert", "import", "package", "lambda", "volatile", "native", "System.out",
            "Exact", "Random", "Thread", "double", "float", "->", "::", "hashCode", "toString", "new Object", "goto"}) {
            boolean there = word.matches("\\w+") ? text.matches("(?s).*\\b" + word + "\\b.*") : text.contains(word);
            due.is("the text has " + word, there, false);
        }
        due.is("signs above 127", text.chars().anyMatch(c -> c > 127), false);
    }
}
