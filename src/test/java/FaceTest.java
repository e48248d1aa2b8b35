import java.io.IOException;
import java.lang.reflect.Field;
import java.lang.reflect.Member;
import java.lang.reflect.Method;
import java.lang.reflect.Modifier;
import java.nio.file.Files;
import java.nio.file.Path;
import java.util.ArrayList;
import java.util.Arrays;
import java.util.List;
import java.util.Set;
import java.util.TreeSet;
import java.util.regex.Matcher;
import java.util.regex.Pattern;

/** The face of the document, and those rules of LANGUAGE.md that can be read off the file. */
public final class FaceTest {
    private static final String FACE = "int river(int,int,int,int);int ofCell(int,int);int pace(int);int bridge(int,boolean);"
        + "int plan(int,int,int,int,int);long dry(int,int,int,int,int);int soonest();int surest(int,int);long sure(int,int);"
        + "int cost(int);int reading(int,int);int back(int);int ways(int,int);int kinds(int,int,int,int,int,int);"
        + "int muds(int,int,int,int,int,int);long odds(int,int,int,int,int);int sheet(int,int,int);int lose(int);"
        + "int put(int,int,int);long cell(int,int,int);int copy(int,int,int,int,int);int tell(int);int sound(int);"
        + "int as(int,int);int trace();int fault();int many(int)";
    private static final Set<String> CONSTANTS = Set.of("UNKNOWN", "OUTSIDE", "STATE", "FULL", "NONE", "LOST");
    private static final Set<String> LIBRARY = Set.of("Math.min", "Math.max", "Integer.bitCount", "System.arraycopy", "Arrays.fill");
    private static final int MOST_LINES = 60, MOST_FIELDS = 20, MOST_PARAMETERS = 7, MOST_CLASSES = 12;

    public static void main(String[] args) throws IOException {
        Check check = new Check("FaceTest");
        face(check);
        membersInside(check);
        words(check, Files.readString(Path.of("src/main/java/PoleBehind.java")));
        check.end();
    }

    private static void face(Check check) {
        Set<String> due = new TreeSet<>(Arrays.asList(FACE.split(";")));
        Set<String> got = new TreeSet<>();
        for (Method method : PoleBehind.class.getDeclaredMethods()) {
            if (Modifier.isPublic(method.getModifiers())) {
                got.add(told(method));
            } else {
                check.holds(method + " is private", Modifier.isPrivate(method.getModifiers()));
            }
        }
        check.holds("the methods are " + due + ", got " + got, due.equals(got));
        check.holds("the class is public and final", Modifier.isPublic(PoleBehind.class.getModifiers())
            && Modifier.isFinal(PoleBehind.class.getModifiers()));
        check.due("constructors", PoleBehind.class.getDeclaredConstructors().length, 1);
        check.due("public constructors", PoleBehind.class.getConstructors().length, 1);
        for (Field field : PoleBehind.class.getDeclaredFields()) {
            boolean isOfTheFace = CONSTANTS.contains(field.getName());
            check.holds(field + " is public if of the face, private if not",
                isOfTheFace ? Modifier.isPublic(field.getModifiers()) : Modifier.isPrivate(field.getModifiers()));
        }
    }

    private static String told(Method method) {
        List<String> types = new ArrayList<>();
        for (Class<?> type : method.getParameterTypes()) {
            types.add(type.getName());
        }
        return method.getReturnType() + " " + method.getName() + "(" + String.join(",", types) + ")";
    }

    private static void membersInside(Check check) {
        Set<String> publicNames = new TreeSet<>();
        for (Method method : PoleBehind.class.getMethods()) {
            publicNames.add(method.getName());
        }
        List<Class<?>> classes = new ArrayList<>(Arrays.asList(PoleBehind.class.getDeclaredClasses()));
        check.holds("at most " + MOST_CLASSES + " classes", classes.size() < MOST_CLASSES);
        classes.add(PoleBehind.class);
        for (Class<?> each : classes) {
            boolean isOuter = each == PoleBehind.class;
            check.holds(each + " is static", isOuter || Modifier.isStatic(each.getModifiers()));
            int fields = 0;
            for (Field field : each.getDeclaredFields()) {
                boolean isConstant = Modifier.isStatic(field.getModifiers());
                check.holds(field + " is final", !isConstant || Modifier.isFinal(field.getModifiers()));
                fields += isConstant ? 0 : 1;
            }
            check.holds(each + " has few fields", fields <= MOST_FIELDS);
            for (Method method : each.getDeclaredMethods()) {
                check.holds(method + " has few parameters", method.getParameterCount() <= MOST_PARAMETERS);
                boolean isFace = isOuter && isPublic(method);
                check.holds(method + " bears no public name", isFace || !publicNames.contains(method.getName()));
            }
        }
    }

    private static boolean isPublic(Member member) {
        return Modifier.isPublic(member.getModifiers());
    }

    private static void words(Check check, String file) {
        String code = file.replaceAll("(?s)/\\*.*?\\*/", "").replaceAll("//[^\n]*", "");
        String[] none = {"throw", "try", "catch", "finally", "synchronized", "assert", "package", "double", "float", "Object",
            "System\\.(?!arraycopy)", "->", "::", "Random", "Thread", "static \\{", "Exact", "@Override", "equals", "hashCode"};
        for (String word : none) {
            String pattern = Character.isLetter(word.charAt(0)) ? "\\b" + word : word;
            check.holds("nowhere " + word, !Pattern.compile(pattern).matcher(code).find());
        }
        Matcher imports = Pattern.compile("import ([^;]*);").matcher(code);
        while (imports.find()) {
            check.holds("import of " + imports.group(1), imports.group(1).equals("java.util.Arrays"));
        }
        Matcher library = Pattern.compile("\\b((?:Math|Arrays|System|Integer|Long|Character|Boolean|String)\\.\\w+)\\(").matcher(code);
        while (library.find()) {
            check.holds("the library has " + library.group(1), LIBRARY.contains(library.group(1)));
        }
        check.holds("signs from 1 to 127", file.chars().allMatch(sign -> sign >= 1 && sign <= 127));
        methodsAreShort(check, file.split("\n"));
    }

    /** A method ends with the brace that stands as far in as its head. */
    private static void methodsAreShort(Check check, String[] lines) {
        Pattern head = Pattern.compile("^( {4}| {8})(?!private static final class)\\S.*\\) \\{$");
        for (int from = 0; from < lines.length; from++) {
            Matcher start = head.matcher(lines[from]);
            if (start.matches()) {
                int to = from;
                while (!lines[to].equals(start.group(1) + "}")) {
                    to++;
                }
                check.holds("the method of line " + (from + 1) + " is short", to - from < MOST_LINES);
            }
        }
    }
}
