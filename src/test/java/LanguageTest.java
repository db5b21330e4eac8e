import java.io.IOException;
import java.lang.reflect.Constructor;
import java.lang.reflect.Field;
import java.lang.reflect.Method;
import java.lang.reflect.Modifier;
import java.nio.file.Files;
import java.nio.file.Path;
import java.util.ArrayList;
import java.util.Arrays;
import java.util.List;
import java.util.Set;
import java.util.TreeSet;
import java.util.regex.Matcher;
import java.util.regex.Pattern;

/** The face of the document, and those rules of LANGUAGE.md that a look at the source or the class can tell. */
public final class LanguageTest {
    private static final String[] BANNED = {"\\bthrow\\b", "\\bthrows\\b", "\\btry\\b", "\\bcatch\\b", "\\bassert\\b",
        "\\bsynchronized\\b", "->", "::", "\\bvar\\b", "\"\\s*\\+", "\\+\\s*\"", "\\bpackage\\b",
        "\\bstatic\\s*\\{", "Exact\\s*\\(", "\\bSystem\\.(?!arraycopy)", "\\bRandom\\b", "\\bThread\\b",
        "Arrays\\.(?!fill|copyOf)", "String\\.", "\\bObject\\b"};

    /** What LANGUAGE.md lets be called of the library, by class; Exact functions stand under none. */
    private static final String LIBRARY = "java/lang/Object\\.<init>\\(\\)V"
        + "|java/lang/String\\.(length|charAt|isEmpty|equals|indexOf\\(I|substring|toCharArray|<init>\\(\\[C\\)).*"
        + "|java/lang/StringBuilder\\.(<init>|append\\((C|I|Ljava/lang/String;)\\)|charAt|setCharAt|setLength|deleteCharAt"
        + "|reverse|length|toString).*"
        + "|java/util/(ArrayList|List)\\.(<init>|add|get|set|remove|size|isEmpty|clear|of|iterator).*"
        + "|java/util/Iterator\\.(hasNext|next).*"
        + "|java/lang/(Integer|Long|Math)\\.(?!\\w*Exact\\().*"
        + "|java/lang/System\\.arraycopy.*"
        + "|java/util/Arrays\\.(copyOf|copyOfRange|fill)\\(\\[[IJSBCDFZ].*"
        + "|\\[.*\\.clone\\(\\).*";
    private static final int DEEPEST = 8;

    private static int wrong = 0;

    public static void main(String[] args) throws IOException {
        Path root = Path.of(args.length > 0 ? args[0] : ".");
        String source = Files.readString(root.resolve("src/main/java/DoorTown.java"));
        String document = Files.readString(root.resolve("../shared/DOC.md"));
        noBanned(source);
        onlyToldImports(source);
        shortMethods(source);
        sameFace(document);
        noSharedNames();
        noStaticState();
        compiledCode();
        System.out.println(wrong == 0 ? "the language is kept" : wrong + " breaches");
        if (wrong != 0) {
            System.exit(1);
        }
    }

    private static void breach(String what) {
        wrong++;
        System.out.println("breach: " + what);
    }

    private static void noBanned(String source) {
        String code = source.replaceAll("(?s)/\\*.*?\\*/", "").replaceAll("//.*", "");
        // A switch may have arrows; what is left of them are lambdas.
        code = code.replaceAll("\\b(case\\b[^:;{}]*?|default\\s*)->", "$1:");
        for (String banned : BANNED) {
            Matcher m = Pattern.compile(banned).matcher(code);
            if (m.find()) {
                breach(banned + " stands in the source");
            }
        }
        for (char c : source.toCharArray()) {
            if (c > 126) {
                breach("a sign above 126");
            }
        }
    }

    private static void onlyToldImports(String source) {
        Matcher m = Pattern.compile("(?m)^import (.*);$").matcher(source);
        while (m.find()) {
            if (!Set.of("java.util.Arrays", "java.util.ArrayList", "java.util.List", "java.util.Iterator").contains(m.group(1))) {
                breach("import of " + m.group(1));
            }
        }
    }

    /** A method ends with a brace as deep as its first line. */
    private static void shortMethods(String source) {
        String[] lines = source.split("\n");
        for (int i = 0; i < lines.length; i++) {
            Matcher m = Pattern.compile("^(\\s+)[\\w\\[\\] ]+\\(.*\\) \\{$").matcher(lines[i]);
            if (!m.matches() || lines[i].matches(".*\\b(if|for|while|switch|else)\\b.*")) {
                continue;
            }
            int end = i;
            while (end < lines.length && !lines[end].equals(m.group(1) + "}")) {
                end++;
            }
            if (end - i > 60) {
                breach("a method of " + (end - i) + " lines: " + lines[i].trim());
            }
        }
    }

    private static void sameFace(String document) {
        Set<String> told = new TreeSet<>();
        Matcher m = Pattern.compile("(?m)^    public (int|long) (\\w+)\\((.*)\\);$").matcher(document);
        while (m.find()) {
            String types = m.group(3).replaceAll("(int|boolean|long) \\w+", "$1").replace(" ", "");
            told.add(m.group(1) + " " + m.group(2) + "(" + types + ")");
        }
        Set<String> here = new TreeSet<>();
        for (Method method : DoorTown.class.getDeclaredMethods()) {
            if (Modifier.isPublic(method.getModifiers())) {
                List<String> types = new ArrayList<>();
                for (Class<?> type : method.getParameterTypes()) {
                    types.add(type.getName());
                }
                here.add(method.getReturnType() + " " + method.getName() + "(" + String.join(",", types) + ")");
            } else if (!Modifier.isPrivate(method.getModifiers())) {
                breach(method + " is neither public nor private");
            }
        }
        if (told.size() != 43 || !told.equals(here)) {
            breach("the face: told " + told + ", here " + here);
        }
        Set<String> constants = new TreeSet<>();
        for (Field field : DoorTown.class.getDeclaredFields()) {
            if (!Modifier.isPrivate(field.getModifiers())) {
                constants.add(Modifier.toString(field.getModifiers()) + " " + field.getName());
            }
        }
        String pre = "public static final ";
        if (!constants.equals(Set.of(pre + "BAD", pre + "STATE", pre + "FULL", pre + "NONE"))) {
            breach("constants " + constants);
        }
        Constructor<?>[] made = DoorTown.class.getDeclaredConstructors();
        if (made.length != 1 || made[0].getParameterCount() != 0 || !Modifier.isPublic(made[0].getModifiers())) {
            breach("constructors " + Arrays.toString(made));
        }
        if (!Modifier.isFinal(DoorTown.class.getModifiers()) || !Modifier.isPublic(DoorTown.class.getModifiers())) {
            breach("the class is public and final");
        }
    }

    private static void noSharedNames() {
        Set<String> face = new TreeSet<>();
        for (Method method : DoorTown.class.getDeclaredMethods()) {
            if (Modifier.isPublic(method.getModifiers()) && !face.add(method.getName())) {
                breach("two of the face named " + method.getName());
            }
        }
        List<Method> others = new ArrayList<>();
        for (Class<?> inside : DoorTown.class.getDeclaredClasses()) {
            others.addAll(Arrays.asList(inside.getDeclaredMethods()));
            if (!Modifier.isStatic(inside.getModifiers()) || Modifier.isPublic(inside.getModifiers())) {
                breach(inside + " is not static, or public");
            }
        }
        for (Method method : DoorTown.class.getDeclaredMethods()) {
            if (!Modifier.isPublic(method.getModifiers())) {
                others.add(method);
            }
        }
        for (Method method : others) {
            if (face.contains(method.getName())) {
                breach(method + " bears a name of the face");
            }
            if (method.getParameterCount() > 7) {
                breach(method + " takes more than seven");
            }
        }
    }

    private static void noStaticState() {
        List<Class<?>> classes = new ArrayList<>(List.of(DoorTown.class));
        classes.addAll(Arrays.asList(DoorTown.class.getDeclaredClasses()));
        if (classes.size() > 12) {
            breach(classes.size() + " classes");
        }
        for (Class<?> each : classes) {
            int own = 0;
            for (Field field : each.getDeclaredFields()) {
                boolean fixed = Modifier.isStatic(field.getModifiers());
                own += fixed ? 0 : 1;
                if (fixed && !Modifier.isFinal(field.getModifiers())) {
                    breach(field + " is static and not final");
                }
            }
            if (own > 20) {
                breach(each + " has " + own + " fields");
            }
        }
    }

    private static void compiledCode() throws IOException {
        Compiled compiled = new Compiled();
        compiled.add(DoorTown.class);
        for (Class<?> inside : DoorTown.class.getDeclaredClasses()) {
            compiled.add(inside);
        }
        for (String method : compiled.calls.keySet()) {
            onlyToldLibrary(method, compiled);
            shallow(method, compiled);
        }
        none(compiled.throwers, "throws");
        none(compiled.catchers, "catches, or holds a lock");
        none(compiled.dynamic, "joins a text by +, or has a lambda");
        none(compiled.casters, "casts an object");
        // Rows are made once, so that 512 calls on many objects find place in one room.
        compiled.makers.removeIf(method -> method.contains("<init>") || method.contains("<clinit>"));
        none(compiled.makers, "makes an object in a call");
    }

    private static void onlyToldLibrary(String method, Compiled compiled) {
        for (String called : compiled.calls.get(method)) {
            if (!compiled.calls.containsKey(called) && !called.matches(LIBRARY)) {
                breach(method + " calls " + called);
            }
        }
    }

    private static void shallow(String method, Compiled compiled) {
        if (compiled.recurs(method)) {
            breach(method + " comes back to itself");
            return;
        }
        List<String> chain = compiled.deepest(method, List.of());
        if (chain.size() > DEEPEST) {
            breach("calls " + chain.size() + " deep: " + chain);
        }
    }

    private static void none(Set<String> methods, String what) {
        for (String method : methods) {
            breach(method + " " + what);
        }
    }
}
