import java.io.IOException;
import java.lang.reflect.Field;
import java.lang.reflect.Method;
import java.lang.reflect.Modifier;
import java.nio.file.Files;
import java.nio.file.Path;
import java.util.Arrays;
import java.util.Set;
import java.util.TreeSet;
import java.util.regex.Matcher;
import java.util.regex.Pattern;

/** The public face as the document has it, and what of LANGUAGE.md can be seen from outside or in the source. */
public final class FaceTest {
    private static final String[] METHODS = {
        "int begin()", "int addHeap(int) IllegalArgumentException IllegalStateException",
        "int setGreatestTake(int) IllegalArgumentException", "boolean turnSplitting()", "boolean turnMerging()",
        "boolean turnEnding()",
        "int take(int,int) IndexOutOfBoundsException IllegalArgumentException IllegalStateException",
        "int split(int,int) IndexOutOfBoundsException IllegalArgumentException IllegalStateException",
        "int merge(int,int) IndexOutOfBoundsException IllegalArgumentException IllegalStateException",
        "int make(int) IndexOutOfBoundsException", "int heaps()", "int stonesOf(int) IndexOutOfBoundsException",
        "int stones()", "int greatestTake()", "boolean isSplitting()", "boolean isMerging()", "boolean isNormal()",
        "int player()", "int made()", "int madeOf(int) IllegalArgumentException", "int winner()", "int moves()",
        "int kindOf(int) IndexOutOfBoundsException", "int heapOf(int) IndexOutOfBoundsException",
        "int amountOf(int) IndexOutOfBoundsException", "int number()", "int numberByHeaps()", "boolean isWon()",
        "boolean wins(int) IndexOutOfBoundsException", "int winningMoves()", "int bestReply()", "int longestGame()",
        "int shortestGame()", "double winningShare()",
        "int append(int) IllegalArgumentException IllegalStateException", "int clearText()", "int firstError()",
        "int play() IllegalStateException", "int undo() IllegalStateException", "long digest()"};

    private static final String[] FORBIDDEN = {"\\bimport\\b", "\\bpackage\\b", "->", "::", "\\bsynchronized\\b",
        "\\bassert\\b", "\\bfinally\\b", "\\btry\\b", "\\bcatch\\b", "static \\{", "Exact\\b", "\\bequals\\b",
        "\\bhashCode\\b", "\\btoString\\b", "\\bRandom\\b",
        "\\bSystem\\.(?!arraycopy\\b)", "\\bInteger\\.[A-Z]", "\\bLong\\.[A-Z]",
        "\\bMath\\.(?!min\\b|max\\b)", "\\bObject\\b", "\\bprotected\\b"};

    private static final Checks checks = new Checks();

    public static void main(String[] args) throws IOException {
        checkFace();
        checkClass(CairnGame.class);
        checks.holds("at most 12 classes", 1 + CairnGame.class.getDeclaredClasses().length <= 12);
        for (Class<?> inner : CairnGame.class.getDeclaredClasses()) {
            checks.holds(inner + " is private and static",
                    Modifier.isPrivate(inner.getModifiers()) && Modifier.isStatic(inner.getModifiers()));
            checkClass(inner);
        }
        checkSource(Files.readString(Path.of("src/main/java/CairnGame.java")));
        checks.end();
    }

    private static String face(Method method) {
        StringBuilder face = new StringBuilder();
        face.append(method.getReturnType().getSimpleName()).append(' ').append(method.getName()).append('(');
        Class<?>[] types = method.getParameterTypes();
        for (int i = 0; i < types.length; i++) {
            face.append(i > 0 ? "," : "").append(types[i].getSimpleName());
        }
        face.append(')');
        for (Class<?> thrown : method.getExceptionTypes()) {
            face.append(' ').append(thrown.getSimpleName());
        }
        return face.toString();
    }

    private static void checkFace() {
        Set<String> got = new TreeSet<>();
        for (Method method : CairnGame.class.getDeclaredMethods()) {
            if (!Modifier.isPrivate(method.getModifiers())) {
                got.add(face(method));
            }
        }
        Set<String> due = new TreeSet<>(Arrays.asList(METHODS));
        System.out.println("methods: " + got.size() + ", due are " + due.size());
        for (String face : due) {
            checks.holds("missing: " + face, got.contains(face));
        }
        for (String face : got) {
            checks.holds("too much: " + face, due.contains(face));
        }
        Set<String> fields = new TreeSet<>();
        for (Field field : CairnGame.class.getDeclaredFields()) {
            if (!Modifier.isPrivate(field.getModifiers())) {
                fields.add(field.getName());
            }
        }
        checks.holds("constants: " + fields, fields.equals(Set.of("NONE", "TAKE", "SPLIT", "MERGE")));
        checks.holds("final", Modifier.isFinal(CairnGame.class.getModifiers()));
        checks.same("constructors", CairnGame.class.getDeclaredConstructors().length, 1);
        checks.same("public constructors", CairnGame.class.getConstructors().length, 1);
    }

    private static void checkClass(Class<?> type) {
        Set<String> publicNames = new TreeSet<>();
        for (Method method : CairnGame.class.getMethods()) {
            publicNames.add(method.getName());
        }
        int fields = 0;
        for (Field field : type.getDeclaredFields()) {
            if (Modifier.isStatic(field.getModifiers())) {
                checks.holds(type + "." + field.getName() + " is final", Modifier.isFinal(field.getModifiers()));
            } else {
                fields++;
            }
        }
        checks.holds(type + " has few fields", fields <= 20);
        for (Method method : type.getDeclaredMethods()) {
            if (type != CairnGame.class || Modifier.isPrivate(method.getModifiers())) {
                checks.holds(method + " bears no public name", !publicNames.contains(method.getName()));
            }
            checks.holds(method + " has few parameters", method.getParameterCount() <= 7);
        }
    }

    private static void checkSource(String source) {
        String code = source.replaceAll("(?s)/\\*.*?\\*/", "").replaceAll("//[^\n]*", "");
        for (String forbidden : FORBIDDEN) {
            Matcher found = Pattern.compile(forbidden).matcher(code);
            checks.holds("the source has " + forbidden, !found.find());
        }
        for (int i = 0; i < source.length(); i++) {
            checks.holds("sign " + i, source.charAt(i) < 128);
        }
    }
}
