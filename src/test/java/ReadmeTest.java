import java.io.IOException;
import java.lang.reflect.Method;
import java.lang.reflect.Modifier;
import java.nio.file.Files;
import java.nio.file.Path;

/** What README.md says of the class is so, and it names each call. */
public final class ReadmeTest {
    private static final Due due = new Due();

    public static void main(String[] args) throws IOException {
        example();
        names();
        due.end();
    }

    private static void example() {
        ClothPull x = new ClothPull();
        due.is("table", x.table(60, 0), true);
        due.is("thing 0", x.thing(0, 1, 30, 10, 12, 10), true);
        due.is("more 0", x.more(0, 2, 3, 100), true);
        due.is("thing 1", x.thing(1, 3, 45, 6, 20, 15), true);
        due.is("more 1", x.more(1, 0, 0, 250), true);
        String law = "a1+w/2(t=t);s2(t=t);hr/5(t=t);b8(t=t);z1(t=t)";
        feed(x, law);
        due.is("law", x.law(law.length()), 5);
        String pull = "4*2,10*6";
        feed(x, pull);
        due.is("pull", x.pull(pull.length()), 8);
        due.is("still(0)", x.still(0), 1);
        due.is("still(5)", x.still(5), 1);
        due.is("still(11)", x.still(11), 42);
        due.is("pace", x.pace(), 11);
        due.is("worth(0, 2)", x.worth(0, 2), 1);
        due.is("put(3, 10)", x.put(3, 10), 2);
        due.is("keep", x.keep(), 2);
        due.is("done", x.done(), 1);
        due.is("what is told then", x.count(3), 2);
        due.is("undo", x.undo(), true);
        due.is("what is told again", x.count(3), 3);
    }

    static void feed(ClothPull x, String text) {
        for (int at = 0; at < text.length(); at += 20) {
            int[] v = new int[5];
            for (int k = 0; k < 20 && at + k < text.length(); k++) {
                v[k / 4] |= text.charAt(at + k) << (24 - 8 * (k % 4));
            }
            x.feed(v[0], v[1], v[2], v[3], v[4]);
        }
    }

    private static void names() throws IOException {
        String text = Files.readString(Path.of("README.md"));
        for (Method m : ClothPull.class.getDeclaredMethods()) {
            if (Modifier.isPublic(m.getModifiers())) due.is("it names " + m.getName(), text.contains("`" + m.getName() + "`"), true);
        }
        due.is("it says how the tests are run", text.contains("bash .ci/run"), true);
    }
}
