import java.io.IOException;
import java.lang.reflect.Field;
import java.lang.reflect.Method;
import java.lang.reflect.Modifier;
import java.nio.file.Files;
import java.nio.file.Path;
import java.util.ArrayList;
import java.util.Arrays;
import java.util.List;
import java.util.Set;
import java.util.TreeSet;
import java.util.regex.Matcher;
import java.util.regex.Pattern;

/** The rules of LANGUAGE.md that can be seen from the text or from the compiled class. */
public final class TextTest {
    private static final Check CHECK = new Check();

    public static void main(String[] args) throws IOException {
        classesInside();
        typesOfFieldsAndMethods();
        String code = codeWithoutComments();
        text(code);
        methodsThatMakeObjects(code);
        new CallGraph(code).check(CHECK);
        CHECK.finish("TextTest");
    }

    private static List<Class<?>> allClasses() {
        List<Class<?>> all = new ArrayList<>(List.of(SamplingDesk.class));
        all.addAll(Arrays.asList(SamplingDesk.class.getDeclaredClasses()));
        return all;
    }

    private static void classesInside() {
        List<Class<?>> all = allClasses();
        CHECK.due("at most twelve classes", all.size() <= 12 ? 1 : 0, 1);
        for (Class<?> one : all) {
            int fields = 0;
            for (Field field : one.getDeclaredFields()) {
                if (Modifier.isStatic(field.getModifiers())) {
                    CHECK.due(field.getName() + " is final", Modifier.isFinal(field.getModifiers()) ? 1 : 0, 1);
                    CHECK.due(field.getName() + " is an int", field.getType().getName(), "int");
                } else {
                    fields++;
                }
            }
            CHECK.due(one.getName() + " has at most twenty fields", fields <= 20 ? 1 : 0, 1);
            for (Method method : one.getDeclaredMethods()) {
                CHECK.due(method.getName() + " has at most seven parameters",
                        method.getParameterCount() <= 7 ? 1 : 0, 1);
            }
        }
    }

    /** Rule 3: numbers, own classes and rows of them; rows of rows of numbers alone. */
    private static void typesOfFieldsAndMethods() {
        for (Class<?> one : allClasses()) {
            for (Field field : one.getDeclaredFields()) {
                allowed(field.getName(), field.getType());
            }
            for (Method method : one.getDeclaredMethods()) {
                allowed("answer of " + method.getName(), method.getReturnType());
                for (Class<?> type : method.getParameterTypes()) {
                    allowed("argument of " + method.getName(), type);
                }
            }
        }
    }

    private static void allowed(String name, Class<?> type) {
        Class<?> element = type;
        int dimensions = 0;
        while (element.isArray()) {
            element = element.getComponentType();
            dimensions++;
        }
        boolean own = element.getName().startsWith("SamplingDesk$");
        boolean right = dimensions <= 1 ? own || element.isPrimitive() : dimensions == 2 && element.isPrimitive();
        CHECK.due("type of " + name, right ? 1 : 0, 1);
    }

    private static String codeWithoutComments() throws IOException {
        String source = Files.readString(Path.of("src/main/java/SamplingDesk.java"));
        CHECK.due("characters of the text", source.chars().filter(c -> c > 126).count(), 0);
        return source.replaceAll("(?s)/\\*.*?\\*/", " ").replaceAll("//[^\n]*", " ");
    }

    /** Rule 12: besides constructors just the calls that keep a plan, a supplier or a lot make objects. */
    private static void methodsThatMakeObjects(String code) {
        Set<String> makers = new TreeSet<>();
        for (CallGraph.Body body : CallGraph.bodiesOf(code)) {
            if (Pattern.compile("\\bnew\\b").matcher(body.text).find()) {
                makers.add(body.name);
            }
        }
        CHECK.due("makers of objects", makers.toString(), "[SamplingDesk, lot, plan, supplier]");
    }

    private static void text(String code) {
        String[] ruledOut = {
            "\\bthrow\\b", "\\bthrows\\b", "\\btry\\b", "\\bcatch\\b", "\\bsynchronized\\b", "\\bassert\\b",
            "\\bimport\\b", "\\bpackage\\b", "->", "::", "\\bstatic\\s*\\{", "\\bSystem\\b", "Exact\\b",
            "\\bprotected\\b", "\\bvar\\b", "\\bhashCode\\b", "\\bequals\\b", "\\btoString\\b", "\"",
            "\\bdouble\\b", "\\bfloat\\b", "\\bwhile\\b", "\\bnew\\s+\\w+\\s*\\([^)]*\\)\\s*\\{",
            "\\bfor \\([^;]*;\\s*;",
        };
        for (String pattern : ruledOut) {
            Matcher found = Pattern.compile(pattern).matcher(code);
            CHECK.due("text: " + pattern, found.find() ? 1 : 0, 0);
        }
        int longest = 0;
        for (CallGraph.Body body : CallGraph.bodiesOf(code)) {
            longest = Math.max(longest, body.text.split("\n").length);
        }
        CHECK.due("methods stay short", longest > 1 && longest <= 60 ? 1 : 0, 1);
    }
}
