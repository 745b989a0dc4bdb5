import java.lang.reflect.Array;
import java.lang.reflect.Field;
import java.lang.reflect.Method;
import java.lang.reflect.Modifier;
import java.nio.file.Files;
import java.nio.file.Path;
import java.util.ArrayDeque;
import java.util.ArrayList;
import java.util.Arrays;
import java.util.Collections;
import java.util.Deque;
import java.util.HashSet;
import java.util.IdentityHashMap;
import java.util.List;
import java.util.Set;
import java.util.regex.Matcher;
import java.util.regex.Pattern;

/**
 * Holds the program against those rules of LANGUAGE.md that can be looked up, and against the room of a run.
 * Where the program does with less than a rule allows, the test allows no more, as that is easier to look up.
 */
public final class LanguageTest extends Sheet {
    private static final Path SOURCE = Path.of("src/main/java/ProofLine.java");

    public static void main(String[] args) throws Exception {
        List<String> code = codeOf(Files.readString(SOURCE));
        noForbiddenWords(code);
        onlyListedLibrary(code);
        objectsAreMadeInConstructors(code);
        methodsAreShort(code);
        for (Class<?> type : allClasses()) {
            members(type);
        }
        classes();
        roomOfAnObject();
        end("the language's rules hold");
    }

    /** The lines without comments, and with nothing between quotation marks. */
    private static List<String> codeOf(String source) {
        String code = source.replaceAll("'(\\\\.|[^'\\\\])'", "' '").replaceAll("\"(\\\\.|[^\"\\\\])*\"", "\"\"");
        Matcher comment = Pattern.compile("(?s)/\\*.*?\\*/").matcher(code);
        code = comment.replaceAll(found -> found.group().replaceAll("[^\n]", ""));
        return Arrays.asList(code.replaceAll("//[^\n]*", "").split("\n"));
    }

    private static void noLineHas(List<String> code, String rule, String pattern) {
        Pattern forbidden = Pattern.compile(pattern);
        for (int i = 0; i < code.size(); i++) {
            due("rule " + rule + ", line " + (i + 1), forbidden.matcher(code.get(i)).find(), false);
        }
    }

    private static void noForbiddenWords(List<String> code) {
        noLineHas(code, "1, no package and no other class", "^(package|import|class|interface|enum|record)\\b");
        noLineHas(code, "2, no lambda and no method reference", "->|::");
        noLineHas(code, "3, whole numbers and own classes alone", "\\b(double|float|Object|var)\\b");
        noLineHas(code, "5, no static initialiser", "static \\{");
        noLineHas(code, "6, none of these", "\\b(try|catch|finally|synchronized|assert|instanceof|getMessage)\\b");
        noLineHas(code, "6, none of an own object", "\\.(equals|hashCode|toString)\\(");
        noLineHas(code, "9, no loop whose end cannot be seen", "while \\(|for \\(;;|do \\{");
        noLineHas(code, "13, no clock and the like", "\\b(Random|Thread|File|nanoTime|currentTimeMillis|getenv)\\b");
    }

    private static void onlyListedLibrary(List<String> code) {
        noLineHas(code, "4, System", "\\bSystem\\.(?!arraycopy\\()");
        noLineHas(code, "4, Math", "\\bMath\\.(?!floorMod\\()");
        noLineHas(code, "4, no more of it", "\\b(String|StringBuilder|Integer|Long|ArrayList|List|Arrays|java)\\b");
    }

    /** So that no call adds to what a run has in its room. */
    private static void objectsAreMadeInConstructors(List<String> code) {
        Pattern allowed = Pattern.compile("throw new Illegal(State|Argument)Exception\\(\\);|final [\\w\\[\\]]+ \\w+ = new |"
            + "\\w+\\[i\\] = new Row\\(|^ {8}\\w+ = new (Reader|Reducer|Typist|Row)\\(|^ {12}code = new int\\[room\\];");
        for (int i = 0; i < code.size(); i++) {
            String line = code.get(i);
            due("made at line " + (i + 1), line.contains("new ") && !allowed.matcher(line).find(), false);
        }
    }

    private static void methodsAreShort(List<String> code) {
        Pattern head = Pattern.compile("^( {4}| {8})(?!.*\\bclass\\b)\\w.*\\).*\\{$");
        int methods = 0;
        for (int i = 0; i < code.size(); i++) {
            Matcher found = head.matcher(code.get(i));
            if (found.find() && !code.get(i).matches(" {8}(if|for|switch) .*")) {
                int end = code.subList(i, code.size()).indexOf(found.group(1) + "}");
                due("rule 11, the method at line " + (i + 1) + " has an end in sixty lines", end > 0 && end < 60, true);
                methods++;
            }
        }
        due("methods were found", methods > 80, true);
    }

    // ---- classes and their members

    private static List<Class<?>> allClasses() {
        List<Class<?>> all = new ArrayList<>(Arrays.asList(ProofLine.class.getDeclaredClasses()));
        all.add(ProofLine.class);
        return all;
    }

    private static void classes() {
        due("rule 11, classes", allClasses().size() <= 12, true);
        for (Class<?> inner : ProofLine.class.getDeclaredClasses()) {
            due("rule 1, static " + inner, Modifier.isStatic(inner.getModifiers()), true);
            due("rule 1, not public " + inner, Modifier.isPublic(inner.getModifiers()) || Modifier.isProtected(inner.getModifiers()), false);
        }
    }

    private static void members(Class<?> type) {
        Set<String> face = new HashSet<>();
        for (Method m : ProofLine.class.getDeclaredMethods()) {
            if (Modifier.isPublic(m.getModifiers())) {
                face.add(m.getName());
            }
        }
        for (Method m : type.getDeclaredMethods()) {
            due("rule 11, parameters of " + m, m.getParameterCount() <= 7, true);
            due("rule 1, name of " + m, !Modifier.isPublic(m.getModifiers()) && face.contains(m.getName()), false);
        }
        int fields = 0;
        for (Field f : type.getDeclaredFields()) {
            if (Modifier.isStatic(f.getModifiers())) {
                due("rule 5, final " + f, Modifier.isFinal(f.getModifiers()), true);
                due("rule 5, constant " + f, f.getType().isPrimitive() || f.getType() == int[].class, true);
            } else {
                fields++;
            }
        }
        due("rule 11, fields of " + type, fields <= 20, true);
    }

    // ---- the room

    /** How many objects and arrays hang on one, and how many fields and elements these have. */
    private static int[] room(Object one) throws Exception {
        Set<Object> seen = Collections.newSetFromMap(new IdentityHashMap<>());
        Deque<Object> open = new ArrayDeque<>();
        open.add(one);
        seen.add(one);
        int[] room = new int[2];
        while (!open.isEmpty()) {
            Object next = open.remove();
            room[0]++;
            for (Object part : partsOf(next)) {
                room[1]++;
                if (part != null && (part.getClass().isArray() || part.getClass().getName().startsWith("ProofLine")) && seen.add(part)) {
                    open.add(part);
                }
            }
        }
        return room;
    }

    private static List<Object> partsOf(Object one) throws Exception {
        List<Object> parts = new ArrayList<>();
        if (one.getClass().isArray()) {
            for (int i = 0; i < Array.getLength(one); i++) {
                parts.add(Array.get(one, i));
            }
            return parts;
        }
        for (Field f : one.getClass().getDeclaredFields()) {
            if (!Modifier.isStatic(f.getModifiers())) {
                f.setAccessible(true);
                parts.add(f.get(one));
            }
        }
        return parts;
    }

    private static void roomOfAnObject() throws Exception {
        Sheet sheet = new Sheet();
        int[] before = room(sheet.it);
        due("objects of a new one " + before[0], before[0] <= 300, true);
        due("fields and elements of a new one " + before[1], before[1] <= 10000, true);
        sheet.tell("A", "\\f:N>N.\\x:N.f(f x)").tell("B", "\\p:N>*.\\f:N>N>N.f 20 20");
        sheet.comes("A(A(A(A S)))1", 45, "17").typed("A", "(N>N)>N>N").line("A(A(A(A(A S))))1");
        due("a dear one", sheet.it.normal(), ProofLine.FUEL);
        due("what is too big", sheet.it.same(1, 1), ProofLine.FUEL);
        due("room is the same behind the calls", Arrays.toString(room(sheet.it)), Arrays.toString(before));
    }
}
