import java.io.IOException;
import java.lang.reflect.Constructor;
import java.lang.reflect.Field;
import java.lang.reflect.Method;
import java.lang.reflect.Modifier;
import java.nio.charset.StandardCharsets;
import java.nio.file.Files;
import java.nio.file.Path;
import java.util.ArrayList;
import java.util.Arrays;
import java.util.List;
import java.util.TreeSet;
import java.util.regex.Pattern;

/**
 * The public face, and those rules of LANGUAGE.md that can be told from the class or from its text,
 * whose path is the argument.
 */
public final class FaceTest {
    private static final String[] FACE = {
        "int NONE", "int BAD", "int REFUSED", "int NOTHING", "CartArguments()", "int clear()", "int append(char)",
        "int premise(int)", "int conclusion(int)", "int cart(int)", "int road(int,int,int)", "int load(int,int,int)",
        "int unload(int)", "int swap(int,int,int)", "int trip(int,int)", "int grease(int)", "int read()",
        "int fault()", "int reason(int,boolean)", "int thingOf(int,int)", "int cartOf(int,int)", "int at(int,int)",
        "int roadOf(int,int)", "int tenths(int,boolean)", "int tenthsAgain(int,boolean)", "float axle(int,boolean)",
        "float wear(int,boolean)", "float tolls()", "int best(int)", "int bestAgain(int)", "int could(int,int)",
        "int takes(int)", "int cheapest(int)", "int heaviest(int)", "int fullest(int)", "int write(int)",
        "int writeRoads()", "int written(int)", "int isWell()", "double meanWeight()", "float creakShare()",
        "int account(int)", "int undo()", "int save()", "int restore()",
    };

    /** What the rules leave out, and what this class does without. */
    private static final String[] LEFT_OUT = {
        "\\bimport\\b", "\\bpackage\\b", "->", "::", "\\btry\\b", "\\bcatch\\b", "\\bfinally\\b", "\\bthrows?\\b",
        "\\bsynchronized\\b", "\\bassert\\b", "\\bvar\\b", "\\bObject\\b", "\\binstanceof\\b", "\\bvolatile\\b",
        "\\.equals\\(", "\\.hashCode\\(", "\\.toString\\(", "\\bSystem\\.(?!arraycopy\\()", "\\bMath\\.(?!abs|min|max)",
        "\\bThread\\b", "\\bNaN\\b", "\\w\\[\\]\\[\\]", "\" \\+", "\\+ \"", "[^\\x00-\\x7e]",
    };

    private FaceTest() {
    }

    public static void main(String[] args) throws IOException {
        publicFace();
        membersOfNestedClasses();
        if (args.length > 0) {
            String text = Files.readString(Path.of(args[0]), StandardCharsets.UTF_8);
            leftOut(text);
            lengths(text);
        }
        room();
        Check.end();
    }

    private static String parameters(Class<?>[] types) {
        List<String> names = new ArrayList<>();
        for (Class<?> type : types) {
            names.add(type.getSimpleName());
        }
        return "(" + String.join(",", names) + ")";
    }

    private static void publicFace() {
        Class<?> it = CartArguments.class;
        TreeSet<String> face = new TreeSet<>();
        for (Field field : it.getDeclaredFields()) {
            if (!Modifier.isPrivate(field.getModifiers())) {
                face.add(field.getType() + " " + field.getName());
                dueFlags(field.toString(), field.getModifiers(), Modifier.PUBLIC | Modifier.STATIC | Modifier.FINAL);
            }
        }
        for (Method method : it.getDeclaredMethods()) {
            if (!Modifier.isPrivate(method.getModifiers()) && !method.isSynthetic()) {
                face.add(method.getReturnType() + " " + method.getName() + parameters(method.getParameterTypes()));
                dueFlags(method.toString(), method.getModifiers(), Modifier.PUBLIC);
            }
        }
        for (Constructor<?> constructor : it.getDeclaredConstructors()) {
            face.add(it.getName() + parameters(constructor.getParameterTypes()));
            dueFlags(constructor.toString(), constructor.getModifiers(), Modifier.PUBLIC);
        }
        Check.dueText("the face", face.toString(), new TreeSet<>(Arrays.asList(FACE)).toString());
        dueFlags("the class", it.getModifiers(), Modifier.PUBLIC | Modifier.FINAL);
        Check.dueText("the class above", it.getSuperclass().getName(), "java.lang.Object");
        Check.due("interfaces", it.getInterfaces().length, 0);
    }

    private static void dueFlags(String what, int got, int want) {
        Check.dueText(what, Modifier.toString(got), Modifier.toString(want));
    }

    private static void membersOfNestedClasses() {
        TreeSet<String> names = new TreeSet<>();
        for (String member : FACE) {
            if (member.contains("(") && member.contains(" ")) {
                names.add(member.substring(member.indexOf(' ') + 1, member.indexOf('(')));
            }
        }
        Class<?>[] nested = CartArguments.class.getDeclaredClasses();
        Check.due("classes, with this one, are at most twelve", nested.length + 1 <= 12 ? 1 : 0, 1);
        dueFields(CartArguments.class);
        for (Class<?> each : nested) {
            Check.due(each + " is private", Modifier.isPrivate(each.getModifiers()) ? 1 : 0, 1);
            Check.due(each + " is static", Modifier.isStatic(each.getModifiers()) ? 1 : 0, 1);
            dueFields(each);
            for (Method method : each.getDeclaredMethods()) {
                Check.due(method + " bears a name of the face", names.contains(method.getName()) ? 1 : 0, 0);
            }
        }
        for (Method method : CartArguments.class.getDeclaredMethods()) {
            if (Modifier.isPrivate(method.getModifiers())) {
                Check.due(method + " bears a name of the face", names.contains(method.getName()) ? 1 : 0, 0);
            }
        }
    }

    private static void dueFields(Class<?> of) {
        int count = 0;
        for (Field field : of.getDeclaredFields()) {
            if (Modifier.isStatic(field.getModifiers())) {
                Check.due(field + " is final", Modifier.isFinal(field.getModifiers()) ? 1 : 0, 1);
            } else {
                count++;
            }
        }
        Check.due(of + " has at most twenty fields", count <= 20 ? 1 : 0, 1);
    }

    private static void leftOut(String text) {
        String code = text.replaceAll("(?s)/\\*.*?\\*/", "").replaceAll("//[^\n]*", "");
        for (String pattern : LEFT_OUT) {
            Check.due("the text has " + pattern, Pattern.compile(pattern).matcher(code).find() ? 1 : 0, 0);
        }
    }

    /** A method's lines are those from its head to the brace that closes it at the same depth. */
    private static void lengths(String text) {
        String head = "";
        int start = 0;
        String[] lines = text.split("\n");
        for (int index = 0; index < lines.length; index++) {
            String line = lines[index];
            if (line.matches("( {4}| {8})[A-Za-z].*\\) \\{") && !line.contains(" class ")) {
                head = line.substring(0, line.length() - line.trim().length());
                start = index;
                Check.due(line + " takes more than seven", line.split(",").length > 7 ? 1 : 0, 0);
            }
            if (line.equals(head + "}") && start > 0) {
                Check.due(lines[start] + " is too long", index - start + 1 > 60 ? 1 : 0, 0);
                start = 0;
            }
        }
    }

    /** All calls live in one room: once an object stands, its calls make next to nothing. */
    private static void room() {
        java.lang.management.ThreadMXBean bean = java.lang.management.ManagementFactory.getThreadMXBean();
        if (!(bean instanceof com.sun.management.ThreadMXBean)) {
            return;
        }
        com.sun.management.ThreadMXBean counter = (com.sun.management.ThreadMXBean) bean;
        someCalls(new CartArguments());
        CartArguments x = new CartArguments();
        long before = counter.getCurrentThreadAllocatedBytes();
        someCalls(x);
        long made = counter.getCurrentThreadAllocatedBytes() - before;
        Check.due("bytes that the calls made, " + made + ", are few", made < 20000 ? 1 : 0, 1);
    }

    private static void someCalls(CartArguments x) {
        x.cart(20);
        x.road(99, 9, 9);
        for (int thing = 0; thing < 6; thing++) {
            x.premise(9 - thing);
            x.load(thing, 0, thing);
        }
        x.conclusion(20);
        x.load(6, 0, 6);
        for (int round = 0; round < 30; round++) {
            x.trip(0, 0);
            x.grease(0);
            x.isWell();
            x.could(0, 0);
            x.fullest(0);
            x.heaviest(5);
            x.write(0);
            x.writeRoads();
            x.save();
            x.undo();
            x.restore();
            x.append('c');
            x.append(';');
            x.read();
        }
    }
}
