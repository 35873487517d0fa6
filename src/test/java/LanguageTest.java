import java.lang.reflect.Constructor;
import java.lang.reflect.Field;
import java.lang.reflect.Method;
import java.lang.reflect.Modifier;
import java.nio.file.Files;
import java.nio.file.Path;
import java.util.ArrayList;
import java.util.List;
import java.util.Set;
import java.util.TreeSet;
import java.util.regex.Matcher;
import java.util.regex.Pattern;

/** The rules of LANGUAGE.md that can be looked up in the source and in the class: the face, and words that are not to be there. */
public final class LanguageTest {
    private static int wrong = 0;

    private static final String[] FACE = {
        "int put(int,int)", "int type(int,long,int)", "int clear(int)", "int fault(int)", "int draws(int,int)",
        "int cell(int,int,int)", "int point(int,int)", "int same(int,int)", "int quickest(int)", "int wish(int,int)",
        "int forget()", "int right(int,int)", "int corner(int,int)", "int edge(int,int,boolean)", "int unnet()",
        "int odd()", "int once()", "int trail(int)", "int starts()", "int bends()", "int again()", "int round(int,int)",
        "int see(int,int,int)", "int odds(int)", "int shaken()", "int before(int,int)", "int test(int,int,int)",
        "int span(int,int)", "int sign(int)", "int limb(int,int)", "int image(int)", "int from(int)", "int status(int)",
        "int count(int)", "long digest()"};

    private static final String[] NOT_TO_BE = {"throw", "throws", "try", "catch", "synchronized", "assert", "Exception",
        "Error", "System\\.out", "System\\.err", "currentTimeMillis", "nanoTime", "Random", "Thread", "hashCode", "toString",
        "->", "::", "volatile", "native", "import (?!java\\.util\\.(Arrays|ArrayList|List|Iterator);)", "goto", "Exact\\("};

    public static void main(String[] args) throws Exception {
        face();
        String source = Files.readString(Path.of(args.length > 0 ? args[0] : "src/main/java/TwoKnobs.java"));
        words(withoutComments(source));
        methods(source);
        if (wrong > 0) {
            System.exit(1);
        }
        System.out.println("LanguageTest: as due");
    }

    private static void fail(String what) {
        wrong++;
        System.out.println("LanguageTest: " + what);
    }

    private static void face() {
        Class<?> c = TwoKnobs.class;
        if (c.getModifiers() != (Modifier.PUBLIC | Modifier.FINAL)) {
            fail("the class is not public final");
        }
        Set<String> want = new TreeSet<>(List.of(FACE));
        Set<String> names = new TreeSet<>();
        Set<String> got = new TreeSet<>();
        for (Method m : c.getDeclaredMethods()) {
            if (!Modifier.isPrivate(m.getModifiers())) {
                got.add(told(m));
                names.add(m.getName());
                if (m.getModifiers() != Modifier.PUBLIC) {
                    fail("not just public: " + told(m));
                }
            }
        }
        if (!got.equals(want)) {
            fail("the face is " + got);
        }
        for (Constructor<?> k : c.getDeclaredConstructors()) {
            if (k.getParameterCount() != 0 || k.getModifiers() != Modifier.PUBLIC) {
                fail("a constructor: " + k);
            }
        }
        Set<String> constants = new TreeSet<>();
        for (Field f : c.getDeclaredFields()) {
            if (!Modifier.isPrivate(f.getModifiers())) {
                constants.add(f.getName());
            }
        }
        if (!constants.equals(new TreeSet<>(List.of("NONE", "BAD", "NO", "FULL")))) {
            fail("the constants are " + constants);
        }
        List<Class<?>> all = new ArrayList<>(List.of(c.getDeclaredClasses()));
        if (all.size() > 11) {
            fail("too many classes: " + all.size());
        }
        all.add(c);
        for (Class<?> k : all) {
            inside(k, names);
        }
    }

    private static void inside(Class<?> k, Set<String> names) {
        int fields = 0;
        for (Field f : k.getDeclaredFields()) {
            boolean isStatic = Modifier.isStatic(f.getModifiers());
            fields += isStatic ? 0 : 1;
            if (isStatic && !Modifier.isFinal(f.getModifiers())) {
                fail("a static field that is not final: " + f);
            }
        }
        if (fields > 20) {
            fail("too many fields: " + k);
        }
        if (k != TwoKnobs.class && !Modifier.isStatic(k.getModifiers())) {
            fail("not static: " + k);
        }
        for (Method m : k.getDeclaredMethods()) {
            if (Modifier.isPrivate(m.getModifiers()) && names.contains(m.getName())) {
                fail("a private method with a public one's name: " + m);
            }
            if (m.getParameterCount() > 7) {
                fail("too many parameters: " + m);
            }
        }
    }

    private static String told(Method m) {
        StringBuilder s = new StringBuilder(m.getReturnType() + " " + m.getName() + "(");
        for (int i = 0; i < m.getParameterCount(); i++) {
            s.append(i > 0 ? "," : "").append(m.getParameterTypes()[i]);
        }
        return s.append(")").toString();
    }

    private static String withoutComments(String source) {
        return source.replaceAll("(?s)/\\*.*?\\*/", " ").replaceAll("//[^\n]*", " ");
    }

    private static void words(String code) {
        for (String word : NOT_TO_BE) {
            boolean isWord = word.matches("[a-zA-Z]+");
            String bounded = isWord ? "\\b" + word + "\\b" : word;
            Matcher m = Pattern.compile(bounded).matcher(code);
            if (m.find()) {
                fail("is in the source: " + word);
            }
        }
        for (char sign : code.toCharArray()) {
            if (sign > 126) {
                fail("a sign above 126: " + (int) sign);
            }
        }
    }

    /** Methods stay short: by the lines between a heading and the brace that ends it. */
    private static void methods(String source) {
        String[] lines = source.split("\n");
        for (int i = 0; i < lines.length; i++) {
            String indent = lines[i].replaceAll("^( *).*$", "$1");
            if (lines[i].matches(" {4,8}[a-zA-Z].*\\) \\{") && !lines[i].trim().startsWith("if")) {
                int j = i;
                while (j < lines.length && !lines[j].equals(indent + "}")) {
                    j++;
                }
                if (j - i > 60) {
                    fail("too long: " + lines[i].trim());
                }
            }
        }
    }
}
