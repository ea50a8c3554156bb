import java.lang.reflect.Constructor;
import java.lang.reflect.Field;
import java.lang.reflect.Method;
import java.lang.reflect.Modifier;
import java.util.TreeSet;

/** The class shows the document's face and nothing else (LANGUAGE.md, rules 1 and 5). */
public final class FaceTest {
    public static void main(String[] args) {
        Check check = new Check();
        check.due("class modifiers", PageRaster.class.getModifiers(), Modifier.PUBLIC | Modifier.FINAL);
        check.due("methods seen from outside", seenMethods(),
            "int area(int)|int clipped()|int depth()|int draw(int,int)|int edges()|int fault()|int faultAt()"
            + "|int feed(int)|int fills()|int length()|int pixel(int,int)|void clear()");
        check.due("constructors", seenConstructors(), "public PageRaster()");
        check.due("fields seen from outside", seenFields(PageRaster.class), 0);
        check.due("classes inside that are not static", innerClasses(), 0);
        check.due("changing static fields", changingStatics(), 0);
        check.end();
    }

    private static String seenMethods() {
        TreeSet<String> seen = new TreeSet<>();
        for (Method method : PageRaster.class.getDeclaredMethods()) {
            if (!Modifier.isPrivate(method.getModifiers())) {
                String open = Modifier.toString(method.getModifiers()).equals("public") ? "" : "not public: ";
                String line = method.toString().replace("public ", "").replace("PageRaster.", "");
                seen.add(open + line);
            }
        }
        return String.join("|", seen);
    }

    private static String seenConstructors() {
        TreeSet<String> seen = new TreeSet<>();
        for (Constructor<?> constructor : PageRaster.class.getDeclaredConstructors()) {
            seen.add(constructor.toString());
        }
        return String.join("|", seen);
    }

    private static int seenFields(Class<?> type) {
        int count = 0;
        for (Field field : type.getDeclaredFields()) {
            count += Modifier.isPrivate(field.getModifiers()) ? 0 : 1;
        }
        return count;
    }

    private static int innerClasses() {
        int count = 0;
        for (Class<?> inside : PageRaster.class.getDeclaredClasses()) {
            count += Modifier.isStatic(inside.getModifiers()) ? 0 : 1;
        }
        return count;
    }

    private static int changingStatics() {
        int count = changingStatics(PageRaster.class);
        for (Class<?> inside : PageRaster.class.getDeclaredClasses()) {
            count += changingStatics(inside);
        }
        return count;
    }

    private static int changingStatics(Class<?> type) {
        int count = 0;
        for (Field field : type.getDeclaredFields()) {
            int modifiers = field.getModifiers();
            count += Modifier.isStatic(modifiers) && !Modifier.isFinal(modifiers) ? 1 : 0;
        }
        return count;
    }
}
