import java.lang.reflect.Field;
import java.lang.reflect.Member;
import java.lang.reflect.Method;
import java.lang.reflect.Modifier;
import java.nio.file.Files;
import java.nio.file.Path;
import java.util.Arrays;
import java.util.Map;
import java.util.TreeMap;
import java.util.TreeSet;
import java.util.regex.Matcher;
import java.util.regex.Pattern;

/** The public face of the document, and the rules of the language that can be seen without running a call. */
public final class FaceTest {
    private static final String FACE = """
        append 1, clearScript 0, fault 0, load 0, why 1, undo 0, remove 1, shift 2, setEnd 2, split 1, join 1, seat 0,
        cut 1, uncut 1, set 2, subtitles 0, subtitle 2, character 2, line 2, at 1, cuts 0, cutAt 1, setting 1,
        faulty 1, shown 0, meanSpeed 0, unread 1, leastPace 0, ifSeated 1, bestGap 0""";
    private static final String CONSTANTS = """
        {BAD_TEXT=-3, BAD_VALUE=-2, GAP=1, LEAST=2, MOST=3, NONE=-6, NOT_POSSIBLE=-5, NO_SUCH=-1, SNAP=5, SPEED=0, \
        TOO_MANY=-4, WIDTH=4}""";
    private static final String[] FORBIDDEN = {"\\bimport\\b", "\\bpackage\\b", "->", "::", "\\bcatch\\b", "\\btry\\b",
        "\\bfinally\\b", "\\bthrow\\b", "\\bsynchronized\\b", "\\bassert\\b", "\\bdouble\\b", "\\binstanceof\\b",
        "\\bString\\b", "\\bObject\\b", "\\bvar\\b", "\\bprotected\\b", "\\bRandom\\b", "\\bInteger\\.(?!bitCount)",
        "\\bSystem\\.(?!arraycopy\\()", "\\bMath\\.(?!(max|min|abs)\\()", "[^\\x00-\\x7f]", "\\bwhile \\(true\\)",
        "\\bfor \\([^;]*; *;", "\\b(LOWEST|HIGHEST|AT_FIRST)\\[[^\\]]*\\] *(=[^=]|\\+|-)", "%"};
    private static final int LONGEST_METHOD = 60;
    private static final int MOST_PARAMETERS = 7;
    /** The only quotients: the divisor of each is looked at first. */
    private static final String QUOTIENT = "return divisor < 1 ? 0 : amount / divisor;";
    private static final String MEAN = "(float) film.lengthOfAll() * 25.0f / (float) frames";

    private static int wrong = 0;

    public static void main(String[] args) throws Exception {
        checkClass();
        checkMethods();
        checkConstants();
        checkInnerClasses();
        checkSource(Files.readString(Path.of("src/main/java/SubtitleSeats.java")));
        System.out.println(wrong == 0 ? "the face and the language are as due" : wrong + " rules are broken");
        if (wrong != 0) {
            System.exit(1);
        }
    }

    private static void due(String what, Object got, Object want) {
        if (!got.equals(want)) {
            wrong++;
            System.out.println(what + ": " + got + ", due is " + want);
        }
    }

    private static void checkClass() {
        due("modifiers", SubtitleSeats.class.getModifiers(), Modifier.PUBLIC | Modifier.FINAL);
        due("constructors", SubtitleSeats.class.getDeclaredConstructors().length, 1);
        due("public constructors", SubtitleSeats.class.getConstructors().length, 1);
        due("parameters", SubtitleSeats.class.getConstructors()[0].getParameterCount(), 0);
    }

    private static void checkMethods() {
        TreeSet<String> want = new TreeSet<>(Arrays.asList(FACE.replace("\n", " ").split(", *")));
        TreeSet<String> got = new TreeSet<>();
        for (Method method : SubtitleSeats.class.getDeclaredMethods()) {
            if (Modifier.isPublic(method.getModifiers())) {
                got.add(method.getName() + " " + method.getParameterCount());
                boolean isSpeed = method.getName().equals("meanSpeed");
                due(method.getName(), method.getReturnType(), isSpeed ? float.class : int.class);
                due(method.getName(), Modifier.isStatic(method.getModifiers()), false);
                for (Class<?> parameter : method.getParameterTypes()) {
                    due(method.getName(), parameter, int.class);
                }
            } else {
                checkPrivate(method);
                due("face's name " + method.getName(), FACE.matches("(?s).*\\b" + method.getName() + " .*"), false);
            }
        }
        due("methods", got, want);
    }

    private static void checkConstants() throws Exception {
        Map<String, Integer> got = new TreeMap<>();
        for (Field field : SubtitleSeats.class.getDeclaredFields()) {
            if (Modifier.isPublic(field.getModifiers())) {
                got.put(field.getName(), field.getInt(null));
                due(field.getName(), Modifier.isFinal(field.getModifiers()), true);
            } else {
                checkPrivate(field);
            }
        }
        due("constants", got.toString(), CONSTANTS.strip());
    }

    private static void checkPrivate(Member member) {
        due("private " + member.getName(), Modifier.isPrivate(member.getModifiers()), true);
        if (member instanceof Field && Modifier.isStatic(member.getModifiers())) {
            due("final " + member.getName(), Modifier.isFinal(member.getModifiers()), true);
        }
    }

    private static void checkMembers(Class<?> type) {
        for (Method method : type.getDeclaredMethods()) {
            due("parameters of " + method, method.getParameterCount() <= MOST_PARAMETERS, true);
        }
        int fields = 0;
        for (Field field : type.getDeclaredFields()) {
            if (Modifier.isStatic(field.getModifiers())) {
                due("final " + field, Modifier.isFinal(field.getModifiers()), true);
                due("type of " + field, field.getType() == int.class || field.getType() == int[].class, true);
            } else {
                fields++;
            }
        }
        due("fields of " + type, fields <= 20, true);
    }

    private static void checkInnerClasses() {
        checkMembers(SubtitleSeats.class);
        for (Class<?> inner : SubtitleSeats.class.getDeclaredClasses()) {
            due("static " + inner, Modifier.isStatic(inner.getModifiers()), true);
            due("public " + inner, Modifier.isPublic(inner.getModifiers()), false);
            checkMembers(inner);
            for (Method method : inner.getDeclaredMethods()) {
                due("face's name " + method.getName(), FACE.matches("(?s).*\\b" + method.getName() + " .*"), false);
            }
        }
        due("classes", SubtitleSeats.class.getDeclaredClasses().length <= 11, true);
    }

    private static void checkSource(String source) {
        String code = source.replaceAll("(?s)/\\*.*?\\*/|//[^\n]*", "");
        for (String forbidden : FORBIDDEN) {
            Matcher matcher = Pattern.compile(forbidden).matcher(code);
            due("uses of " + forbidden, matcher.find(), false);
        }
        due("quotients", code.replace(QUOTIENT, "").replace(MEAN, "").contains("/"), false);
        checkMethodLengths(source.split("\n"));
        checkThatCallsMakeNothing(code);
    }

    /** From the row that opens a method to the one that closes it, which is set in as far. */
    private static void checkMethodLengths(String[] rows) {
        Pattern head = Pattern.compile("( {4}| {8})\\w[\\w ]*\\(.*\\) \\{");
        int methods = 0;
        for (int i = 0; i < rows.length; i++) {
            Matcher matcher = head.matcher(rows[i]);
            if (!matcher.matches() || rows[i].strip().matches("(for|if|while|switch) .*")) {
                continue;
            }
            int end = i;
            while (end < rows.length && !rows[end].equals(matcher.group(1) + "}")) {
                end++;
            }
            methods++;
            due("long method" + rows[i], end - i < LONGEST_METHOD, true);
        }
        due("methods are found in the source", methods > 60, true);
    }

    /** All rows come from constructors, so that no run of calls can outgrow the room that it has. */
    private static void checkThatCallsMakeNothing(String code) {
        String constructor = "(?sm)^( *)(public )?(SubtitleSeats|Subtitle|Film|History|Script)\\(\\) \\{.*?^\\1\\}";
        due("objects made by calls", code.replaceAll(constructor, "").contains("new "), false);
    }
}
