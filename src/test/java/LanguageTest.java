import java.io.IOException;
import java.lang.reflect.Executable;
import java.lang.reflect.Field;
import java.lang.reflect.Method;
import java.lang.reflect.Modifier;
import java.nio.file.Files;
import java.nio.file.Path;
import java.util.ArrayList;
import java.util.List;
import java.util.Set;
import java.util.TreeSet;
import java.util.regex.Matcher;
import java.util.regex.Pattern;

/** The public face, and those rules of LANGUAGE.md that can be looked up in the source or in its classes. */
public final class LanguageTest {
    private static final Check CHECK = new Check();
    private static final Path SOURCE = Path.of("src/main/java/BroadNib.java");
    private static final String[] FACE = {
        "int write(int)", "int wipe()", "int fault()", "int desk()", "int word(int,long)", "int pen(int,int)",
        "int dot(int)", "int thick(int,int)", "int step(int,int)", "int put(int)", "int dip(int)", "int turn(int)",
        "int blot(int)", "int undo()", "int behind(int,int,int)", "int least(int,int,int)", "int rings(int,int,int)",
        "int judge(int,long)", "int see(int,int)", "int unsee()", "int nibs(int)", "int share(int,boolean)",
        "int rests(int,int,int)", "int skipped(int,int,int,boolean)", "long seed(long)", "int years(int)",
        "int keep(int)", "int again(int)", "int count(int)",
    };

    public static void main(String[] args) throws IOException {
        face();
        classes();
        String code = withoutCommentsAndTexts(Files.readString(SOURCE));
        words(code);
        imports(code);
        methodLengths(code);
        CHECK.end();
    }

    private static void face() {
        Set<String> due = new TreeSet<>(List.of(FACE));
        Set<String> found = new TreeSet<>();
        for (Method method : BroadNib.class.getDeclaredMethods()) {
            if (!Modifier.isPrivate(method.getModifiers()) && !method.isSynthetic()) {
                List<String> types = new ArrayList<>();
                for (Class<?> type : method.getParameterTypes()) {
                    types.add(type.getName());
                }
                found.add(method.getReturnType() + " " + method.getName() + "(" + String.join(",", types) + ")");
                CHECK.due(method + " is public", Modifier.isPublic(method.getModifiers()));
            }
        }
        CHECK.due("the methods are " + found, found.equals(due));
        CHECK.due("public and final", BroadNib.class.getModifiers(), Modifier.PUBLIC | Modifier.FINAL);
        CHECK.due("one constructor", BroadNib.class.getConstructors().length, 1);
        Set<String> constants = new TreeSet<>();
        for (Field field : BroadNib.class.getDeclaredFields()) {
            if (!Modifier.isPrivate(field.getModifiers())) {
                constants.add(field.getName());
            }
        }
        CHECK.due("the constants are " + constants,
            constants.equals(Set.of("UNKNOWN", "OUTSIDE", "STATE", "FULL", "NONE")));
        CHECK.due("UNKNOWN", BroadNib.UNKNOWN, -1);
        CHECK.due("OUTSIDE", BroadNib.OUTSIDE, -2);
        CHECK.due("STATE", BroadNib.STATE, -3);
        CHECK.due("FULL", BroadNib.FULL, -4);
        CHECK.due("NONE", BroadNib.NONE, -9);
    }

    private static void classes() {
        Set<String> names = new TreeSet<>();
        for (String method : FACE) {
            names.add(method.substring(method.indexOf(' ') + 1, method.indexOf('(')));
        }
        List<Class<?>> all = new ArrayList<>(List.of(BroadNib.class.getDeclaredClasses()));
        for (Class<?> inside : all) {
            CHECK.due(inside + " is static", Modifier.isStatic(inside.getModifiers()));
            for (Method method : inside.getDeclaredMethods()) {
                CHECK.due(method + " has no name of the face", !names.contains(method.getName()));
            }
        }
        all.add(BroadNib.class);
        CHECK.due("twelve classes at most", all.size() <= 12);
        for (Class<?> one : all) {
            int fields = 0;
            for (Field field : one.getDeclaredFields()) {
                boolean isStatic = Modifier.isStatic(field.getModifiers());
                CHECK.due(field + ": static fields are final", !isStatic || Modifier.isFinal(field.getModifiers()));
                fields += isStatic ? 0 : 1;
            }
            CHECK.due(one + " has some twenty fields", fields <= 20);
            List<Executable> callable = new ArrayList<>(List.of(one.getDeclaredMethods()));
            callable.addAll(List.of(one.getDeclaredConstructors()));
            for (Executable method : callable) {
                CHECK.due(method + " takes seven at most", method.getParameterCount() <= 7);
            }
        }
        for (Method method : BroadNib.class.getDeclaredMethods()) {
            if (Modifier.isPrivate(method.getModifiers())) {
                CHECK.due(method + " has no name of the face", !names.contains(method.getName()));
            }
        }
    }

    private static String withoutCommentsAndTexts(String source) {
        String code = Pattern.compile("/\\*.*?\\*/", Pattern.DOTALL).matcher(source).replaceAll(" ");
        return code.replaceAll("//[^\n]*", "").replaceAll("\"[^\"\n]*\"", "\"\"");
    }

    private static void words(String code) {
        String[] ruledOut = {"\\bthrow\\b", "\\bthrows\\b", "\\btry\\b", "\\bcatch\\b", "\\bsynchronized\\b", "\\bassert\\b",
            "\\bpackage\\b", "\\bprotected\\b", "->", "::", "\\bObject\\b", "\\bequals\\b", "\\bhashCode\\b", "\\btoString\\b",
            "Exact\\b", "\\bRandom\\b", "\\bThread\\b", "\\bnanoTime\\b", "\\bcurrentTimeMillis\\b", "static\\s*\\{"};
        for (String word : ruledOut) {
            CHECK.due("no " + word, !Pattern.compile(word).matcher(code).find());
        }
    }

    private static void imports(String code) {
        Matcher matcher = Pattern.compile("import ([^;]*);").matcher(code);
        while (matcher.find()) {
            CHECK.due("import of " + matcher.group(1),
                Set.of("java.util.Arrays", "java.util.ArrayList", "java.util.List").contains(matcher.group(1)));
        }
        matcher = Pattern.compile("\\b(Math|Integer|Long|System|Arrays)\\.(\\w+)").matcher(code);
        Set<String> known = Set.of("Math.abs", "Math.min", "Math.max", "Math.floorMod", "Math.floorDiv",
            "Integer.bitCount", "System.arraycopy", "Arrays.fill");
        while (matcher.find()) {
            CHECK.due("the library: " + matcher.group(), known.contains(matcher.group()));
        }
    }

    private static void methodLengths(String code) {
        String[] lines = code.split("\n");
        Pattern head = Pattern.compile("^(\\s+)[\\w\\[\\] ]+\\([^;=]*\\) \\{$");
        for (int i = 0; i < lines.length; i++) {
            Matcher matcher = head.matcher(lines[i]);
            boolean flow = lines[i].matches("\\s*(if|for|while|switch|\\}).*");
            if (matcher.matches() && !flow) {
                int end = i;
                while (end < lines.length && !lines[end].equals(matcher.group(1) + "}")) {
                    end++;
                }
                CHECK.due(lines[i].trim() + " is short", end - i < 60);
            }
        }
    }
}
