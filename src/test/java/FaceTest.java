import java.io.IOException;
import java.lang.reflect.Constructor;
import java.lang.reflect.Field;
import java.lang.reflect.Method;
import java.lang.reflect.Modifier;
import java.nio.file.Files;
import java.nio.file.Path;
import java.util.Arrays;
import java.util.Set;
import java.util.TreeSet;
import java.util.regex.Matcher;
import java.util.regex.Pattern;

/** The public face of the document, and what ../shared/LANGUAGE.md says that can be looked up. */
public final class FaceTest {
    private static final Due DUE = new Due("FaceTest");
    private static final String[] METHODS = {
        "setNumber 2", "setLoad 2", "setComb 2", "setFlag 2", "appendCharacter 1", "clearText 0", "load 0",
        "moveTo 1", "addCommand 2", "run 1", "home 1", "check 1", "correct 1", "keep 1", "back 1", "undo 0",
        "count 1", "account 1", "loadAt 1", "errorAt 1", "command 2", "flag 1", "why 1", "losses 2",
        "fastest 1", "counter 1",
    };

    public static void main(String[] args) throws IOException {
        constants();
        members();
        insideClasses();
        words();
        lengths();
        DUE.end();
    }

    private static void constants() {
        DUE.is("INVALID_ARGUMENT", FeedAxis.INVALID_ARGUMENT, -1000001);
        DUE.is("ILLEGAL_STATE", FeedAxis.ILLEGAL_STATE, -1000002);
        DUE.is("CAPACITY_EXCEEDED", FeedAxis.CAPACITY_EXCEEDED, -1000003);
        DUE.is("NONE", FeedAxis.NONE, -1000009);
    }

    private static void members() {
        Class<?> face = FeedAxis.class;
        DUE.is("public and final", face.getModifiers(), Modifier.PUBLIC | Modifier.FINAL);
        Set<String> names = new TreeSet<>();
        int open = 0;
        for (Method method : face.getDeclaredMethods()) {
            String name = method.getName() + " " + method.getParameterCount();
            if (Modifier.isPublic(method.getModifiers())) {
                names.add(name);
                DUE.is(name + " is public alone", method.getModifiers(), Modifier.PUBLIC);
                DUE.is(name + " answers an int", method.getReturnType() == int.class ? 1 : 0, 1);
                for (Class<?> parameter : method.getParameterTypes()) {
                    DUE.is(name + " takes ints", parameter == int.class ? 1 : 0, 1);
                }
            } else if (!method.isSynthetic()) {
                DUE.is(name + " is private", Modifier.isPrivate(method.getModifiers()) ? 1 : 0, 1);
                DUE.is(name + " bears a name of its own", isOfTheFace(method.getName()) ? 1 : 0, 0);
            }
        }
        DUE.is("the document's methods", names.equals(new TreeSet<>(Arrays.asList(METHODS))) ? 1 : 0, 1);
        int constant = Modifier.PUBLIC | Modifier.STATIC | Modifier.FINAL;
        for (Field field : face.getDeclaredFields()) {
            if (!Modifier.isPrivate(field.getModifiers())) {
                open++;
                DUE.is(field + " is a public constant", field.getModifiers(), constant);
            }
        }
        DUE.is("the document's constants alone are public", open, 4);
        Constructor<?>[] constructors = face.getDeclaredConstructors();
        DUE.is("constructors", constructors.length, 1);
        DUE.is("its parameters", constructors[0].getParameterCount(), 0);
        DUE.is("it is public", constructors[0].getModifiers(), Modifier.PUBLIC);
    }

    private static void insideClasses() {
        Class<?>[] inside = FeedAxis.class.getDeclaredClasses();
        DUE.is("at most twelve classes", inside.length < 12 ? 1 : 0, 1);
        for (Class<?> one : inside) {
            int modifiers = one.getModifiers();
            boolean hidden = !Modifier.isPublic(modifiers) && !Modifier.isProtected(modifiers);
            DUE.is(one + " is hidden", hidden ? 1 : 0, 1);
            DUE.is(one + " is static", Modifier.isStatic(modifiers) ? 1 : 0, 1);
            for (Method method : one.getDeclaredMethods()) {
                DUE.is(method + " bears a name of its own", isOfTheFace(method.getName()) ? 1 : 0, 0);
            }
            int fields = 0;
            for (Field field : one.getDeclaredFields()) {
                int of = field.getModifiers();
                DUE.is(field + " is not static, or final", !Modifier.isStatic(of) || Modifier.isFinal(of) ? 1 : 0, 1);
                fields += Modifier.isStatic(of) ? 0 : 1;
            }
            DUE.is(one + ": some twenty fields at most", fields <= 20 ? 1 : 0, 1);
        }
    }

    private static boolean isOfTheFace(String name) {
        for (String method : METHODS) {
            if (method.startsWith(name + " ")) {
                return true;
            }
        }
        return false;
    }

    private static String source() throws IOException {
        return Files.readString(Path.of("src/main/java/FeedAxis.java"));
    }

    private static void words() throws IOException {
        String source = source();
        DUE.is("signs 1 to 127 alone", source.chars().allMatch(sign -> sign >= 1 && sign <= 127) ? 1 : 0, 1);
        String code = source.replaceAll("(?s)/\\*.*?\\*/", " ").replaceAll("//[^\n]*", " ");
        Pattern ruledOut = Pattern.compile("\\b(throw|throws|try|catch|synchronized|assert|import|package|double"
                + "|float|protected|native)\\b|->|::");
        Matcher found = ruledOut.matcher(code);
        while (found.find()) {
            DUE.is("ruled out: " + found.group(), 1, 0);
        }
        Matcher call = Pattern.compile("\\b(System|Math|Integer)\\.(\\w+)").matcher(code);
        Set<String> library = Set.of("arraycopy", "max", "min", "abs", "floorDiv", "signum", "bitCount");
        while (call.find()) {
            DUE.is("library: " + call.group(), library.contains(call.group(2)) ? 1 : 0, 1);
        }
    }

    /** The length and the parameters of each method; none but the constructors makes an object. */
    private static void lengths() throws IOException {
        Pattern header = Pattern.compile("( {4}| {8})([\\w\\[\\]]+ )*(\\w+)\\((.*)\\) \\{");
        String indent = "";
        String name = "";
        int lines = 0;
        int methods = 0;
        for (String line : source().split("\n")) {
            Matcher begins = header.matcher(line);
            if (name.isEmpty() && begins.matches()) {
                indent = begins.group(1);
                name = begins.group(3);
                lines = 0;
                methods++;
                DUE.is(name + " takes at most seven parameters", begins.group(4).split(",").length <= 7 ? 1 : 0, 1);
            }
            lines++;
            if (line.matches(".*\\bnew \\w.*") && !line.matches(" *[/*].*")) {
                boolean constructor = !name.isEmpty() && Character.isUpperCase(name.charAt(0));
                DUE.is(name + " makes no object: " + line.trim(), constructor ? 1 : 0, 1);
            }
            if (line.equals(indent + "}") && !name.isEmpty()) {
                DUE.is(name + " has at most sixty lines", lines <= 60 ? 1 : 0, 1);
                name = "";
            }
        }
        DUE.is("methods were found", methods > 26 ? 1 : 0, 1);
    }
}
