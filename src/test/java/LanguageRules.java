import java.io.IOException;
import java.lang.reflect.Constructor;
import java.lang.reflect.Field;
import java.lang.reflect.Method;
import java.lang.reflect.Modifier;
import java.nio.file.Files;
import java.nio.file.Path;
import java.util.ArrayList;
import java.util.Arrays;
import java.util.HashSet;
import java.util.List;
import java.util.Set;
import java.util.TreeSet;
import java.util.regex.Matcher;
import java.util.regex.Pattern;

/** What of LANGUAGE.md a program can see: the face, the classes inside, forbidden words. */
public final class LanguageRules {
    private static final String[] FACE = {
        "int stage(int, int)", "int tap(int, int)", "int change(int, int, int)",
        "int way(int, int, boolean)", "int plan(int, int, int)", "int planAt(int, int, int, int)",
        "int coefficient(int, int)", "int about(int, int)", "long norm(int)", "int join(int)",
        "int part()", "int put(int)", "int ramp(int, int, int)", "int out(int)", "int empty()",
        "int reset()", "int through(int, int)", "long told(int, int)", "int near(int)",
        "long counted(int, int)", "int count(int)", "long digest()",
    };
    private static final Set<String> CONSTANT_TYPES = Set.of("int", "long", "boolean", "char", "String",
            "int[]", "long[]", "char[]", "byte[]");
    private static int wrong = 0;

    private static void check(boolean holds, String rule) {
        if (!holds) {
            wrong++;
            System.out.println("not so: " + rule);
        }
    }

    public static void main(String[] args) throws IOException {
        face();
        constants();
        members(FirChain.class, true);
        classesInside();
        source();
        System.out.println(wrong == 0 ? "the rules are kept" : wrong + " rules are not kept");
        if (wrong != 0) {
            System.exit(1);
        }
    }

    private static void face() {
        int modifiers = FirChain.class.getModifiers();
        check(Modifier.isPublic(modifiers) && Modifier.isFinal(modifiers), "public and final");
        check(FirChain.class.getPackageName().isEmpty(), "no package");
        Constructor<?>[] constructors = FirChain.class.getDeclaredConstructors();
        check(constructors.length == 1 && constructors[0].getParameterCount() == 0
                && Modifier.isPublic(constructors[0].getModifiers()), "one public constructor");
        Set<String> seen = new TreeSet<>();
        for (Method method : FirChain.class.getDeclaredMethods()) {
            if (!Modifier.isPrivate(method.getModifiers())) {
                check(method.getModifiers() == Modifier.PUBLIC, method.getName() + " is public alone");
                seen.add(signature(method));
            }
        }
        check(seen.equals(new TreeSet<>(Arrays.asList(FACE))), "the face is the document's: " + seen);
    }

    private static String signature(Method method) {
        List<String> types = new ArrayList<>();
        for (Class<?> type : method.getParameterTypes()) {
            types.add(type.getSimpleName());
        }
        return method.getReturnType().getSimpleName() + " " + method.getName()
                + "(" + String.join(", ", types) + ")";
    }

    private static void constants() {
        check(FirChain.NONE == -1 && FirChain.BAD == -2 && FirChain.NO == -3 && FirChain.FULL == -4,
                "NONE, BAD, NO, FULL");
        Set<String> seen = new TreeSet<>();
        for (Field field : FirChain.class.getDeclaredFields()) {
            if (!Modifier.isPrivate(field.getModifiers())) {
                seen.add(field.getName());
            }
        }
        check(seen.equals(new TreeSet<>(Arrays.asList("NONE", "BAD", "NO", "FULL"))),
                "no other field can be seen: " + seen);
    }

    private static void members(Class<?> type, boolean isFace) {
        Set<String> faceNames = new HashSet<>();
        for (String signature : FACE) {
            faceNames.add(signature.substring(signature.indexOf(' ') + 1, signature.indexOf('(')));
        }
        int fields = 0;
        for (Field field : type.getDeclaredFields()) {
            int modifiers = field.getModifiers();
            check(!Modifier.isStatic(modifiers) || Modifier.isFinal(modifiers), field + " is final");
            check(!Modifier.isStatic(modifiers) || CONSTANT_TYPES.contains(field.getType().getSimpleName()),
                    field + " is of a type that a constant may have");
            fields += Modifier.isStatic(modifiers) ? 0 : 1;
        }
        check(fields <= 20, type.getName() + " has at most twenty fields");
        for (Method method : type.getDeclaredMethods()) {
            check(method.getParameterCount() <= 7, method + " takes at most seven");
            boolean own = !isFace || Modifier.isPrivate(method.getModifiers());
            check(!own || !faceNames.contains(method.getName()), method + " bears a public method's name");
        }
    }

    private static void classesInside() {
        Class<?>[] inside = FirChain.class.getDeclaredClasses();
        check(inside.length <= 11, "at most some twelve classes");
        for (Class<?> type : inside) {
            int modifiers = type.getModifiers();
            check(Modifier.isStatic(modifiers), type.getName() + " is static");
            check(!Modifier.isPublic(modifiers) && !Modifier.isProtected(modifiers),
                    type.getName() + " is private or package-visible");
            members(type, false);
        }
    }

    private static void source() throws IOException {
        String path = System.getProperty("firchain.source", "src/main/java/FirChain.java");
        String text = Files.readString(Path.of(path));
        String code = text.replaceAll("(?s)/\\*.*?\\*/", " ").replaceAll("//[^\n]*", " ");
        String[] words = {"throw", "throws", "try", "catch", "finally", "synchronized", "assert", "import",
            "package", "volatile", "native", "transient", "System", "Object", "Thread", "var"};
        for (String word : words) {
            check(!Pattern.compile("\\b" + word + "\\b").matcher(code).find(), "no " + word);
        }
        check(!code.contains("->") && !code.contains("::"), "no lambda, no method reference");
        check(!code.contains("Exact("), "no function whose name ends in Exact");
        Matcher calls = Pattern.compile("\\bMath\\.(\\w+)").matcher(code);
        Set<String> known = Set.of("abs", "max", "min", "floorDiv");
        while (calls.find()) {
            check(known.contains(calls.group(1)), "Math." + calls.group(1) + " is of the library");
        }
        Matcher libraries = Pattern.compile("\\b(java|javax|jdk|sun)\\.").matcher(code);
        check(!libraries.find(), "no library by its full name");
        check(!Pattern.compile("\\bstatic\\s*\\{").matcher(code).find(), "no static initialiser block");
        check(!Pattern.compile("while\\s*\\(\\s*true|for\\s*\\([^;]*;\\s*;").matcher(code).find(),
                "every loop has an end");
        methods(code);
    }

    /** Rules 11 and 12: methods stay short, and no call but stage() makes an object. */
    private static void methods(String code) {
        Matcher heads = Pattern.compile("(?m)^ +(?:[\\w\\[\\]]+ )*(\\w+)\\([^)]*\\) \\{$").matcher(code);
        Set<String> seen = new HashSet<>();
        while (heads.find()) {
            String name = heads.group(1);
            seen.add(name);
            String body = code.substring(heads.start(), endOfBlock(code, heads.end()));
            check(body.split("\n").length <= 60, name + " stays short");
            boolean mayMake = name.equals("stage") || Character.isUpperCase(name.charAt(0));
            check(mayMake || !Pattern.compile("\\bnew\\b").matcher(body).find(), name + " makes no object");
        }
        for (String signature : FACE) {
            String name = signature.substring(signature.indexOf(' ') + 1, signature.indexOf('('));
            check(seen.contains(name), name + " was found in the source");
        }
    }

    private static int endOfBlock(String code, int from) {
        int open = 1;
        int at = from;
        while (at < code.length() && open > 0) {
            char c = code.charAt(at);
            open += c == '{' ? 1 : c == '}' ? -1 : 0;
            at++;
        }
        return at;
    }
}
