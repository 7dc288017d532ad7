import java.io.IOException;
import java.lang.reflect.Constructor;
import java.lang.reflect.Field;
import java.lang.reflect.Method;
import java.lang.reflect.Modifier;
import java.nio.file.Files;
import java.nio.file.Path;
import java.util.ArrayList;
import java.util.Arrays;
import java.util.List;
import java.util.Set;
import java.util.TreeSet;
import java.util.regex.Matcher;
import java.util.regex.Pattern;
import java.util.stream.Collectors;

/** The rules of LANGUAGE.md that can be seen from the text or from the compiled class. */
public final class TextTest {
    private static final Check CHECK = new Check();
    private static final String FACE = "plan() stage(int,int,int,int) of(int,int,int) part(int,int,int,int) up() down() "
            + "rounded(int) compare(int,int,int,int) crossing(int,int,int,int) risk(int,int,int,int) forget() "
            + "search(int) minimal(int,int) supplier(int,int,int) lot(int,int) item(int,int) undo(int) "
            + "correct(int,int,int) about(int,int) needed(int) rule(int) run(int,int) cost(int,int) score(int,int) "
            + "count(int)";
    private static final Set<String> LONGS = Set.of("up", "down", "rounded", "score");

    public static void main(String[] args) throws IOException {
        face();
        noOtherVisibleMember();
        classesInside();
        text();
        CHECK.finish("TextTest");
    }

    private static List<Class<?>> allClasses() {
        List<Class<?>> all = new ArrayList<>(List.of(SamplingDesk.class));
        all.addAll(Arrays.asList(SamplingDesk.class.getDeclaredClasses()));
        return all;
    }

    private static void face() {
        int modifiers = SamplingDesk.class.getModifiers();
        CHECK.due("public and final", Modifier.isPublic(modifiers) && Modifier.isFinal(modifiers) ? 1 : 0, 1);
        Set<String> got = new TreeSet<>();
        for (Method method : SamplingDesk.class.getDeclaredMethods()) {
            if (Modifier.isPublic(method.getModifiers())) {
                String types = Arrays.stream(method.getParameterTypes()).map(Class::getName)
                        .collect(Collectors.joining(","));
                got.add(method.getName() + "(" + types + ")");
                String answers = LONGS.contains(method.getName()) ? "long" : "int";
                CHECK.due("type of " + method.getName(), method.getReturnType().getName(), answers);
            }
        }
        CHECK.due("face", got.toString(), new TreeSet<>(Arrays.asList(FACE.split(" "))).toString());
    }

    private static void noOtherVisibleMember() {
        Set<String> faceNames = new TreeSet<>();
        for (String method : FACE.split(" ")) {
            faceNames.add(method.substring(0, method.indexOf('(')));
        }
        for (Method method : SamplingDesk.class.getDeclaredMethods()) {
            boolean visible = !Modifier.isPrivate(method.getModifiers());
            CHECK.due(method.getName(), faceNames.contains(method.getName()) ? 1 : 0, visible ? 1 : 0);
        }
        for (Field field : SamplingDesk.class.getDeclaredFields()) {
            CHECK.due(field.getName() + " is private", Modifier.isPrivate(field.getModifiers()) ? 1 : 0, 1);
        }
        Constructor<?>[] constructors = SamplingDesk.class.getDeclaredConstructors();
        CHECK.due("one constructor", constructors.length, 1);
        CHECK.due("its arguments", constructors[0].getParameterCount(), 0);
        for (Class<?> inside : SamplingDesk.class.getDeclaredClasses()) {
            for (Method method : inside.getDeclaredMethods()) {
                CHECK.due(method.getName() + " is no name of the face",
                        faceNames.contains(method.getName()) ? 1 : 0, 0);
            }
        }
    }

    private static void classesInside() {
        List<Class<?>> all = allClasses();
        CHECK.due("at most twelve classes", all.size() <= 12 ? 1 : 0, 1);
        for (Class<?> one : all) {
            if (one != SamplingDesk.class) {
                CHECK.due(one.getName() + " is static", Modifier.isStatic(one.getModifiers()) ? 1 : 0, 1);
            }
            int fields = 0;
            for (Field field : one.getDeclaredFields()) {
                if (Modifier.isStatic(field.getModifiers())) {
                    CHECK.due(field.getName() + " is final", Modifier.isFinal(field.getModifiers()) ? 1 : 0, 1);
                    CHECK.due(field.getName() + " is an int", field.getType().getName(), "int");
                } else {
                    fields++;
                }
            }
            CHECK.due(one.getName() + " has at most twenty fields", fields <= 20 ? 1 : 0, 1);
            for (Method method : one.getDeclaredMethods()) {
                CHECK.due(method.getName() + " has at most seven parameters",
                        method.getParameterCount() <= 7 ? 1 : 0, 1);
            }
        }
    }

    private static void text() throws IOException {
        String source = Files.readString(Path.of("src/main/java/SamplingDesk.java"));
        String code = source.replaceAll("(?s)/\\*.*?\\*/", " ").replaceAll("//[^\n]*", " ");
        String[] ruledOut = {
            "\\bthrow\\b", "\\bthrows\\b", "\\btry\\b", "\\bcatch\\b", "\\bsynchronized\\b", "\\bassert\\b",
            "\\bimport\\b", "\\bpackage\\b", "->", "::", "\\bstatic\\s*\\{", "\\bSystem\\b", "Exact\\b",
            "\\bprotected\\b", "\\bvar\\b", "\\bhashCode\\b", "\\bequals\\b", "\\btoString\\b", "\"",
            "\\bdouble\\b", "\\bfloat\\b", "\\bwhile\\b",
        };
        for (String pattern : ruledOut) {
            Matcher found = Pattern.compile(pattern).matcher(code);
            CHECK.due("text: " + pattern, found.find() ? 1 : 0, 0);
        }
        CHECK.due("methods stay short", longestMethod(code) <= 60 ? 1 : 0, 1);
    }

    /** Lines of the longest method; those of the class begin with 4 spaces, those inside with 8. */
    private static int longestMethod(String code) {
        String[] lines = code.split("\n");
        int longest = 0;
        for (int i = 0; i < lines.length; i++) {
            Matcher head = Pattern.compile("^( {4}| {8})\\S.*\\(.*\\) \\{$").matcher(lines[i]);
            if (head.find()) {
                int end = i;
                while (end < lines.length && !lines[end].equals(head.group(1) + "}")) {
                    end++;
                }
                longest = Math.max(longest, end - i + 1);
            }
        }
        CHECK.due("methods were found", longest > 1 ? 1 : 0, 1);
        return longest;
    }
}
