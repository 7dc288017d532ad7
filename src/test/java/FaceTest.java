import java.io.IOException;
import java.lang.reflect.Constructor;
import java.lang.reflect.Field;
import java.lang.reflect.Method;
import java.lang.reflect.Modifier;
import java.nio.file.Files;
import java.nio.file.Path;
import java.util.ArrayList;
import java.util.Arrays;
import java.util.List;
import java.util.Set;
import java.util.TreeSet;
import java.util.regex.Matcher;
import java.util.regex.Pattern;

/** The class's public face is the document's, and no more (rule 1 of LANGUAGE.md too). */
public final class FaceTest {
    private static final Check CHECK = new Check();
    private static final Path DOCUMENT = Path.of("../shared/DOC.md");
    private static final Path SOURCE = Path.of("src/main/java/SamplingDesk.java");

    /** The lines of the document's face, as they stand there. */
    private static final String FACE = """
            public final class SamplingDesk {
                public SamplingDesk();
                public int plan();
                public int stage(int plan, int size, int accept, int refuse);
                public int of(int plan, int k, int what);
                public int part(int plan, int n, int d, int what);
                public long up();
                public long down();
                public long rounded(int places);
                public int compare(int a, int b, int n, int d);
                public int crossing(int a, int b, int n, int k);
                public int risk(int which, int d, int up, int down);
                public int forget();
                public int search(int n);
                public int minimal(int n, int k);
                public int supplier(int normal, int tight, int reduced);
                public int lot(int supplier, int size);
                public int item(int lot, int which);
                public int undo(int lot);
                public int correct(int lot, int i, int which);
                public int about(int lot, int what);
                public int needed(int lot);
                public int rule(int supplier);
                public int run(int supplier, int k);
                public int cost(int which, int cents);
                public long score(int supplier, int what);
                public int count(int what);
            }
            """;

    public static void main(String[] args) throws IOException {
        theLinesAreTheDocuments();
        theClassItself();
        constructors();
        methods();
        fields();
        classesInside();
        inherited();
        namesOfArguments();
        CHECK.finish("FaceTest");
    }

    private static List<String> heads() {
        List<String> heads = new ArrayList<>();
        for (String line : FACE.split("\n")) {
            if (line.endsWith(";")) {
                heads.add(line.strip().replace(";", ""));
            }
        }
        return heads;
    }

    static Set<String> names() {
        Set<String> names = new TreeSet<>();
        for (String head : heads()) {
            names.add(head.replaceAll(".* (\\w+)\\(.*", "$1"));
        }
        names.remove("SamplingDesk");
        return names;
    }

    /** The lines here stand for the document where a checkout has no document beside it. */
    private static void theLinesAreTheDocuments() throws IOException {
        if (Files.isReadable(DOCUMENT)) {
            Matcher block = Pattern.compile("(?s)```java\n(.*?)```").matcher(Files.readString(DOCUMENT));
            CHECK.due("the document's face", block.find() ? block.group(1) : "none", FACE);
        }
        CHECK.due("a constructor and methods", heads().size(), 26);
        CHECK.due("names of methods", names().size(), 25);
    }

    private static void theClassItself() {
        CHECK.due("the class", SamplingDesk.class.toGenericString(), "public final class SamplingDesk");
        CHECK.due("what it extends", SamplingDesk.class.getSuperclass().getName(), "java.lang.Object");
        CHECK.due("what it implements", SamplingDesk.class.getInterfaces().length, 0);
        CHECK.due("annotations", SamplingDesk.class.getAnnotations().length, 0);
        CHECK.due("its package", SamplingDesk.class.getPackageName(), "");
    }

    private static void constructors() {
        Constructor<?>[] all = SamplingDesk.class.getDeclaredConstructors();
        CHECK.due("one constructor", all.length, 1);
        CHECK.due("the constructor", all[0].toString(), "public SamplingDesk()");
    }

    /** A head as the machine tells it: no names of arguments, the class before the method. */
    private static String asCompiled(String head) {
        Matcher parts = Pattern.compile("public (int|long) (\\w+)\\((.*)\\)").matcher(head);
        if (!parts.matches()) {
            return head;
        }
        String types = parts.group(3).replaceAll("(int|long) \\w+", "$1").replace(", ", ",");
        return "public " + parts.group(1) + " SamplingDesk." + parts.group(2) + "(" + types + ")";
    }

    private static void methods() {
        Set<String> want = new TreeSet<>();
        for (String head : heads()) {
            want.add(asCompiled(head));
        }
        want.remove("public SamplingDesk()");
        Set<String> got = new TreeSet<>();
        for (Method method : SamplingDesk.class.getDeclaredMethods()) {
            if (!Modifier.isPrivate(method.getModifiers())) {
                got.add(method.toString());
            } else {
                notOfTheFace(method);
            }
        }
        CHECK.due("methods that can be seen", String.join("\n", got), String.join("\n", want));
    }

    private static void notOfTheFace(Method method) {
        CHECK.due(method.getName() + " is no name of the face", names().contains(method.getName()) ? 1 : 0, 0);
    }

    private static void fields() {
        for (Field field : SamplingDesk.class.getDeclaredFields()) {
            CHECK.due(field.getName() + " is private", Modifier.isPrivate(field.getModifiers()) ? 1 : 0, 1);
        }
        CHECK.due("fields that can be seen", SamplingDesk.class.getFields().length, 0);
    }

    private static void classesInside() {
        CHECK.due("classes that can be seen", SamplingDesk.class.getClasses().length, 0);
        for (Class<?> inside : SamplingDesk.class.getDeclaredClasses()) {
            int modifiers = inside.getModifiers();
            boolean hidden = !Modifier.isPublic(modifiers) && !Modifier.isProtected(modifiers);
            CHECK.due(inside.getName() + " is hidden", hidden ? 1 : 0, 1);
            CHECK.due(inside.getName() + " is static", Modifier.isStatic(modifiers) ? 1 : 0, 1);
            for (Method method : inside.getDeclaredMethods()) {
                notOfTheFace(method);
            }
        }
    }

    private static void inherited() {
        Set<String> got = new TreeSet<>();
        for (Method method : SamplingDesk.class.getMethods()) {
            if (method.getDeclaringClass() != Object.class) {
                got.add(method.getName());
            }
        }
        CHECK.due("names that can be called", got.toString(), names().toString());
    }

    /** Compiled classes forget the names of arguments, so they are looked for in the text. */
    private static void namesOfArguments() throws IOException {
        String text = Files.readString(SOURCE);
        for (String head : heads()) {
            CHECK.due("'" + head + "' is told once", text.split(Pattern.quote("    " + head + " {"), -1).length, 2);
        }
        CHECK.due("the word public", Arrays.stream(text.split("\\W+")).filter("public"::equals).count(), 27);
    }
}
