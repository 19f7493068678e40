import java.io.IOException;
import java.lang.reflect.Constructor;
import java.lang.reflect.Field;
import java.lang.reflect.Method;
import java.lang.reflect.Modifier;
import java.nio.file.Files;
import java.nio.file.Path;
import java.util.Arrays;
import java.util.Set;
import java.util.TreeSet;

/** The class has the document's face and nothing more, and its file keeps to the words of LANGUAGE.md. */
public final class FaceTest {
    private static final String[] FACE = {
        "public static final int HazelGift.NONE",
        "public static final int HazelGift.LINES",
        "public static final int HazelGift.SQUARES",
        "public HazelGift()",
        "public int HazelGift.give(int) throws java.lang.IndexOutOfBoundsException,java.lang.IllegalStateException",
        "public boolean HazelGift.place(int) throws java.lang.IndexOutOfBoundsException,"
            + "java.lang.IllegalStateException",
        "public int HazelGift.restart(int) throws java.lang.IllegalArgumentException",
        "public int HazelGift.type(char) throws java.lang.IllegalStateException",
        "public int HazelGift.clearText()",
        "public int HazelGift.textError()",
        "public int HazelGift.impossibleMove() throws java.lang.IllegalStateException",
        "public int HazelGift.carryOut() throws java.lang.IllegalStateException",
        "public int HazelGift.undo() throws java.lang.IllegalStateException",
        "public int HazelGift.takeSnapshot()",
        "public int HazelGift.restoreSnapshot() throws java.lang.IllegalStateException",
        "public int HazelGift.playerToMove()",
        "public int HazelGift.gift()",
        "public int HazelGift.pieceOn(int) throws java.lang.IndexOutOfBoundsException",
        "public int HazelGift.cellOf(int) throws java.lang.IndexOutOfBoundsException",
        "public int HazelGift.placed()",
        "public int HazelGift.winner()",
        "public boolean HazelGift.isOver()",
        "public int HazelGift.lines()",
        "public int HazelGift.piecesOn(int) throws java.lang.IndexOutOfBoundsException",
        "public int HazelGift.sharedOn(int) throws java.lang.IndexOutOfBoundsException",
        "public int HazelGift.wonLines()",
        "public int HazelGift.winsOf(int) throws java.lang.IndexOutOfBoundsException",
        "public int HazelGift.winningCell(int) throws java.lang.IndexOutOfBoundsException",
        "public int HazelGift.safeByTrying()",
        "public int HazelGift.safeByLines()",
        "public int HazelGift.outcome() throws java.lang.IllegalStateException",
        "public int HazelGift.bestMove() throws java.lang.IllegalStateException",
        "public int HazelGift.rule()",
        "public int HazelGift.recordedStates()",
    };

    // What LANGUAGE.md leaves out and a hand might slip in.
    private static final String[] LEFT_OUT = {
        "import ", "package ", "->", "::", "catch", "finally", "synchronized", "assert ", "System.", "Exact(",
        "double ", "static {", "instanceof", "Object", "hashCode", "toString", "\" +", "+ \"",
    };

    private static int wrong = 0;

    private static void tell(String what) {
        wrong++;
        System.out.println(what);
    }

    private static void compareFaces() {
        Set<String> found = new TreeSet<>();
        Set<String> privateNames = new TreeSet<>();
        Set<String> publicNames = new TreeSet<>();
        for (Field field : HazelGift.class.getDeclaredFields()) {
            if (!Modifier.isPrivate(field.getModifiers()) && !field.isSynthetic()) {
                found.add(field.toString());
            }
        }
        for (Constructor<?> constructor : HazelGift.class.getDeclaredConstructors()) {
            if (!Modifier.isPrivate(constructor.getModifiers())) {
                found.add(constructor.toString());
            }
        }
        for (Method method : HazelGift.class.getDeclaredMethods()) {
            if (Modifier.isPrivate(method.getModifiers())) {
                privateNames.add(method.getName());
            } else if (!method.isSynthetic()) {
                found.add(method.toString());
                publicNames.add(method.getName());
            }
        }
        Set<String> due = new TreeSet<>(Arrays.asList(FACE));
        for (String member : due) {
            if (!found.contains(member)) {
                tell("not in the class: " + member);
            }
        }
        for (String member : found) {
            if (!due.contains(member)) {
                tell("not in the document: " + member);
            }
        }
        privateNames.retainAll(publicNames);
        if (!privateNames.isEmpty()) {
            tell("private methods with the name of a public one: " + privateNames);
        }
        if (HazelGift.class.getModifiers() != (Modifier.PUBLIC | Modifier.FINAL)) {
            tell("the class is not public and final alone");
        }
        for (Class<?> inside : HazelGift.class.getDeclaredClasses()) {
            int modifiers = inside.getModifiers();
            if (!Modifier.isStatic(modifiers) || Modifier.isPublic(modifiers) || Modifier.isProtected(modifiers)) {
                tell("a class inside that is not static, or is open to others: " + inside);
            }
        }
    }

    private static void readFile() throws IOException {
        for (String line : Files.readAllLines(Path.of("src/main/java/HazelGift.java"))) {
            for (String word : LEFT_OUT) {
                if (line.contains(word)) {
                    tell("LANGUAGE.md leaves out '" + word + "': " + line);
                }
            }
            if (!line.chars().allMatch(c -> c >= 32 && c < 127)) {
                tell("a sign that is not plain: " + line);
            }
        }
    }

    public static void main(String[] args) throws IOException {
        compareFaces();
        readFile();
        System.out.println(wrong == 0 ? "the face is as due" : wrong + " faults of the face");
        if (wrong != 0) {
            System.exit(1);
        }
    }
}
