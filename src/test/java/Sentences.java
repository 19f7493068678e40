import java.io.IOException;
import java.nio.file.Files;
import java.nio.file.Path;
import java.util.ArrayList;
import java.util.LinkedHashMap;
import java.util.List;
import java.util.Map;
import java.util.function.Supplier;

/**
 * Tests that stand under a sentence of the document each, word by word. A sentence that the document does not have
 * under that heading is told as wrong, and so is, at the end, a sentence that has no test.
 */
abstract class Sentences extends Checks {
    private static final Path DOCUMENT = Path.of("../shared/DOC.md");
    // No number of these is a piece, a cell, a line or a player.
    private static final int[] NOWHERE = {-1, 19, 20, 32, 255, 256, -16, 65536, Integer.MIN_VALUE, Integer.MAX_VALUE};

    /** The sentences of each heading that have no test yet. */
    private static final Map<String, List<String>> LEFT = new LinkedHashMap<>();
    private static String heading = "";
    private static int tests = 0;

    interface NumberAsk {
        Object of(HazelGift x, int number);
    }

    static void readDocument() throws IOException {
        String now = "";
        for (String line : Files.readAllLines(DOCUMENT)) {
            if (line.startsWith("#")) {
                now = line.replaceFirst("^#+ ", "");
                LEFT.put(now, new ArrayList<>());
            } else if (!line.isBlank() && !line.startsWith("```")) {
                LEFT.get(now).addAll(sentencesOf(now, line));
            }
        }
    }

    private static List<String> sentencesOf(String under, String line) {
        List<String> found = new ArrayList<>();
        String told = under.startsWith("Promise ") ? line.replaceFirst("^`[^`]*`: ", "") : line;
        for (String sentence : told.split("(?<=\\.) ")) {
            found.add(sentence);
        }
        // A paragraph of the terms begins with its title.
        if (under.equals("Terms") && found.size() > 1 && found.get(0).split(" ").length <= 2) {
            found.remove(0);
        }
        return found;
    }

    static void in(String newHeading) {
        heading = newHeading;
    }

    static void says(String sentence, Runnable test) {
        looked = heading + " says \"" + sentence + "\"";
        if (!LEFT.containsKey(heading) || !LEFT.get(heading).remove(sentence)) {
            wrong++;
            System.out.println(looked + ": the document does not, or this is its second test");
        }
        tests++;
        try {
            test.run();
        } catch (RuntimeException e) {
            wrong++;
            System.out.println(looked + ": the test itself was stopped by " + e);
        }
    }

    static void nothingIsLeft() {
        for (String under : LEFT.keySet()) {
            boolean binding = under.equals("Terms") || under.startsWith("Promise ");
            for (String sentence : binding ? LEFT.get(under) : new ArrayList<String>()) {
                wrong++;
                System.out.println("no test for what " + under + " says: " + sentence);
            }
        }
        System.out.println(tests + " sentences have been tested");
    }

    /** Numbers too small and too large are refused, and nothing changes. */
    static void outside(String call, int bound, Supplier<HazelGift> make, NumberAsk ask) {
        for (int number : NOWHERE) {
            refuses(call + "(" + number + ")", INDEX, make, x -> ask.of(x, number));
        }
        for (int number = bound; number < bound + 4; number++) {
            int next = number;
            refuses(call + "(" + next + ")", INDEX, make, x -> ask.of(x, next));
        }
    }

    /** The call records the state as it was, with no recorded state before it, and with the most. */
    static void isAction(String call, Supplier<HazelGift> make, Ask ask) {
        HazelGift first = forgotten(make.get());
        String before = state(first);
        ask.of(first);
        is("recordedStates() after " + call, 1, first.recordedStates());
        is("undo() after " + call, 0, first.undo());
        is("the state after undo() after " + call, before, state(first));
        refused("a second undo()", STATE, () -> first.undo());

        HazelGift twin = make.get();
        HazelGift fifth = make.get();
        is("recordedStates() before " + call, 4, fifth.recordedStates());
        ask.of(fifth);
        is("recordedStates() after " + call + " as a fifth action", 4, fifth.recordedStates());
        for (int left = 3; left >= 0; left--) {
            is("undo() after " + call + " as a fifth action", left, fifth.undo());
            is("the state of which " + left + " are left", state(twin), state(fifth));
            twin.undo();
        }
        refused("undo() of what a fifth action has displaced", STATE, () -> fifth.undo());
    }

    /** The call changes nothing of what the object keeps. */
    static void changesNothing(String call, Supplier<HazelGift> make, Ask ask) {
        HazelGift asked = make.get();
        String before = picture(asked) + answers(asked);
        String first = told(() -> ask.of(asked));
        due(call + ", asked again", first, () -> ask.of(asked));
        is("what is seen after " + call, before, picture(asked) + answers(asked));
        HazelGift other = make.get();
        told(() -> ask.of(other));
        is("what is kept after " + call, whole(make.get()), whole(other));
    }
}
