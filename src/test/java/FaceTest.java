import java.lang.reflect.Constructor;
import java.lang.reflect.Field;
import java.lang.reflect.Method;
import java.lang.reflect.Modifier;
import java.nio.file.Files;
import java.nio.file.Path;
import java.util.ArrayList;
import java.util.Arrays;
import java.util.List;
import java.util.TreeSet;
import java.util.regex.Matcher;
import java.util.regex.Pattern;

/** The public face as the document tells it, and those rules of LANGUAGE.md that a look at the text can see. */
public final class FaceTest {
    private static final Due DUE = new Due();
    private static final String[] METHODS = {"int home(int,int,int)", "int church(int,int,int,int)",
        "int land(int,int,int,int)", "int ofHome(int,int)", "int ofChurch(int,int)", "int bar(int,int,boolean)",
        "int seats(int,int)", "int toll(int)", "int far(int,int,int)", "int miles()", "int few()", "int weight(int)",
        "int line(int)", "int check(int,int,int,int)", "int family(int)", "int even(int)", "long border(int,int,int)",
        "int who(int,int)", "int place(int,int)", "int move(int)", "int open(int)", "int best(int)",
        "int sheet(int,int,int)", "int lose(int)", "int put(int,int,int)", "long cell(int,int,int)",
        "int copy(int,int,int,int,int)", "int tell(int)", "int ring(int)", "int as(int,int)", "int trace()",
        "int fault()", "int many(int)"};
    private static final String[] CONSTANTS = {"int UNKNOWN", "int OUTSIDE", "int STATE", "int FULL", "int NONE", "long LOST"};
    private static final List<String> LIBRARY = List.of("Math.abs", "Math.max", "Math.min", "Integer.bitCount",
        "Long.MIN_VALUE", "System.arraycopy");

    public static void main(String[] args) throws Exception {
        face();
        document(Files.readString(Path.of("../shared/DOC.md")));
        language(Files.readString(Path.of("src/main/java/NearSeats.java")));
        DUE.end();
    }

    private static void face() {
        Class<?> c = NearSeats.class;
        DUE.holds("public and final", Modifier.isPublic(c.getModifiers()) && Modifier.isFinal(c.getModifiers()));
        TreeSet<String> found = new TreeSet<>();
        TreeSet<String> open = new TreeSet<>();
        TreeSet<String> hidden = new TreeSet<>();
        for (Method m : c.getDeclaredMethods()) {
            boolean isPublic = Modifier.isPublic(m.getModifiers());
            DUE.holds(m + " is public or private", isPublic || Modifier.isPrivate(m.getModifiers()));
            (isPublic ? open : hidden).add(m.getName());
            if (isPublic) {
                String types = Arrays.toString(m.getParameterTypes()).replaceAll("[\\[\\] ]", "");
                found.add(m.getReturnType() + " " + m.getName() + "(" + types + ")");
            }
        }
        DUE.holds("the methods are " + found, found.equals(new TreeSet<>(Arrays.asList(METHODS))));
        TreeSet<String> constants = new TreeSet<>();
        for (Field f : c.getDeclaredFields()) {
            if (Modifier.isPublic(f.getModifiers())) {
                constants.add(f.getType() + " " + f.getName());
                DUE.holds(f + " is a constant", Modifier.isStatic(f.getModifiers()) && Modifier.isFinal(f.getModifiers()));
            } else {
                DUE.holds(f + " is private", Modifier.isPrivate(f.getModifiers()));
                DUE.holds(f + " is no static state", !Modifier.isStatic(f.getModifiers())
                    || Modifier.isFinal(f.getModifiers()));
            }
        }
        DUE.holds("the constants are " + constants, constants.equals(new TreeSet<>(Arrays.asList(CONSTANTS))));
        Constructor<?>[] constructors = c.getDeclaredConstructors();
        DUE.holds("one public constructor", constructors.length == 1 && constructors[0].getParameterCount() == 0
            && Modifier.isPublic(constructors[0].getModifiers()));
        for (Class<?> inside : c.getDeclaredClasses()) {
            DUE.holds(inside + " is static", Modifier.isStatic(inside.getModifiers()));
            for (Method m : inside.getDeclaredMethods()) {
                DUE.holds(m + " bears a name of its own", !open.contains(m.getName()));
                DUE.holds(m + " has seven parameters at most", m.getParameterCount() <= 7);
            }
            for (Field f : inside.getDeclaredFields()) {
                DUE.holds(f + " is no static state", !Modifier.isStatic(f.getModifiers()) || f.getType() == int.class
                    && Modifier.isFinal(f.getModifiers()));
            }
            DUE.holds(inside + " has some twenty fields at most", inside.getDeclaredFields().length <= 20);
        }
        hidden.retainAll(open);
        DUE.is("private methods with public names " + hidden, hidden.size(), 0);
        DUE.holds("some twelve classes at most", c.getDeclaredClasses().length <= 12);
        DUE.is("LOST", NearSeats.LOST, Long.MIN_VALUE);
        int[] values = {NearSeats.UNKNOWN, NearSeats.OUTSIDE, NearSeats.STATE, NearSeats.FULL, NearSeats.NONE};
        DUE.holds("the constants' values", Arrays.equals(values, new int[] {-1, -2, -3, -4, -9}));
    }

    /** That the rows above are the document's own, so that the face is looked at as the document tells it. */
    private static void document(String words) {
        int begin = words.indexOf("public final class NearSeats {");
        int end = words.indexOf("```", begin + 1);
        DUE.holds("the document tells the face", begin >= 0 && end > begin);
        if (begin < 0 || end <= begin) {
            return;
        }
        TreeSet<String> told = new TreeSet<>();
        Matcher method = Pattern.compile("public (int|long) (\\w+)\\(([^)]*)\\);").matcher(words.substring(begin, end));
        while (method.find()) {
            told.add(method.group(1) + " " + method.group(2) + "(" + method.group(3).replaceAll(" \\w+(, |$)", ",")
                .replaceAll(",$", "") + ")");
        }
        DUE.holds("the document tells " + told, told.equals(new TreeSet<>(Arrays.asList(METHODS))));
    }

    private static void language(String source) {
        String code = source.replaceAll("(?s)/\\*.*?\\*/", " ").replaceAll("//[^\n]*", " ");
        String[] words = {"throw", "throws", "try", "catch", "synchronized", "assert", "package", "import", "protected",
            "System\\.out", "Exception", "float", "double", "toString", "hashCode", "while", "do", "volatile", "native"};
        for (String word : words) {
            DUE.holds("no " + word, !code.matches("(?s).*\\b" + word + "\\b.*"));
        }
        Matcher library = Pattern.compile("\\b(Math|Integer|Long|System|Arrays)\\.(\\w+)").matcher(code);
        while (library.find()) {
            DUE.holds(library.group() + " is in the library", LIBRARY.contains(library.group()));
        }
        DUE.holds("no lambda, no method reference", !code.contains("->") && !code.contains("::"));
        DUE.holds("signs of one byte", source.chars().allMatch(sign -> sign < 128));
        List<Integer> lengths = methodLengths(source);
        DUE.holds("methods are found", lengths.size() > 80);
        for (int length : lengths) {
            DUE.holds("a method of " + length + " lines is short", length <= 60);
        }
    }

    /** By the indents: a method's head and its closing brace stand alike. */
    private static List<Integer> methodLengths(String source) {
        List<Integer> lengths = new ArrayList<>();
        String[] lines = source.split("\n");
        for (int i = 0; i < lines.length; i++) {
            String head = lines[i];
            boolean method = head.matches(" {4}( {4})?[a-z][A-Za-z \\[\\]]*\\(.*\\) \\{") && !head.contains(" new ");
            String indent = head.substring(0, head.length() - head.stripLeading().length());
            for (int j = i; method && j < lines.length; j++) {
                if (lines[j].equals(indent + "}")) {
                    lengths.add(j - i + 1);
                    break;
                }
            }
        }
        return lengths;
    }
}
