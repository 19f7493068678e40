import java.util.Random;

/** Runs of calls, drawn with fixed seeds, whose answers are compared with those of the reference. */
public final class ReferenceRunsTest {
    private static final int RUNS = 800;
    private static final int CALLS = 512;

    private interface Call {
        Object answer();
    }

    private final Random random;
    private final String name;
    private HazelGift game = new HazelGift();
    private final Reference reference = new Reference();
    private int calls = 0;
    private int wrong = 0;
    private static final int[] SEEN = new int[8];

    private ReferenceRunsTest(int seed) {
        random = new Random(seed);
        name = "seed " + seed;
    }

    private static String told(Call call) {
        try {
            return String.valueOf(call.answer());
        } catch (RuntimeException e) {
            return "throws." + e.getClass().getSimpleName();
        }
    }

    private String both(String call, Call got, Call want) {
        if (calls >= CALLS) {
            return "";
        }
        calls++;
        String due = told(want);
        String answer = told(got);
        if (!answer.equals(due)) {
            wrong++;
            System.out.println(name + ", call " + calls + ": " + call + " answered " + answer + ", due is " + due);
        }
        return due;
    }

    private int about(int bound) {
        return random.nextInt(20) == 0
            ? new int[] {-1, bound, bound + 3, Integer.MIN_VALUE, Integer.MAX_VALUE, -17}[random.nextInt(6)]
            : random.nextInt(bound);
    }

    private void move() {
        Reference.State s = reference.now;
        if (s.over()) {
            int rule = random.nextInt(12) == 0 ? about(2) : random.nextInt(2);
            both("restart(" + rule + ")", () -> game.restart(rule), () -> reference.restart(rule));
        } else if (s.gift < 0) {
            give(likelyGift());
        } else {
            place(likelyCell());
        }
    }

    private void give(int piece) {
        both("give(" + piece + ")", () -> game.give(piece), () -> reference.give(piece));
    }

    private void place(int cell) {
        both("place(" + cell + ")", () -> game.place(cell), () -> reference.place(cell));
    }

    // Mostly safe gifts, so that many games come to their end.
    private int likelyGift() {
        int safe = reference.now.safe();
        for (int tries = 0; tries < 60; tries++) {
            int piece = random.nextInt(16);
            if ((safe >> piece & 1) == 1 || tries > 40 && reference.now.canGive(piece)) {
                return piece;
            }
        }
        return about(16);
    }

    private int likelyCell() {
        for (int tries = 0; tries < 60; tries++) {
            int cell = random.nextInt(16);
            if (reference.now.canPlace(cell)) {
                return cell;
            }
        }
        return about(16);
    }

    private void typeAll(String text) {
        for (char c : text.toCharArray()) {
            both("type(" + (int) c + ")", () -> game.type(c), () -> reference.type(c));
        }
    }

    private void text() {
        if (random.nextInt(6) > 0) {
            both("clearText()", () -> game.clearText(), () -> reference.clearText());
        }
        StringBuilder text = new StringBuilder();
        Reference.State s = reference.now;
        int moves = random.nextInt(random.nextInt(4) == 0 ? 24 : 6);
        for (int i = 0; i < moves; i++) {
            text.append(i == 0 ? "" : ";");
            if (s.over() || random.nextInt(15) == 0) {
                text.append(random.nextBoolean() ? "g" : "p").append(random.nextInt(random.nextInt(9) == 0 ? 30 : 16));
            } else {
                int number = s.moves().get(random.nextInt(s.moves().size()));
                text.append(s.gift < 0 ? "g" : "p").append(number);
                s = s.moved(number);
            }
        }
        if (text.length() > 0 && random.nextInt(3) == 0) {
            String any = "gp;0123456789 x\u00e9\u20ac\u0000G-";
            char c = any.charAt(random.nextInt(any.length()));
            int where = random.nextInt(text.length());
            if (random.nextBoolean()) {
                text.insert(where, c);
            } else {
                text.setCharAt(where, c);
            }
        }
        typeAll(text.toString());
        both("textError()", () -> game.textError(), () -> reference.textError());
        both("impossibleMove()", () -> game.impossibleMove(), () -> reference.impossibleMove());
        if (random.nextBoolean()) {
            both("carryOut()", () -> game.carryOut(), () -> reference.carryOut());
        }
    }

    private void back() {
        switch (random.nextInt(4)) {
            case 0 -> both("takeSnapshot()", () -> game.takeSnapshot(), () -> reference.takeSnapshot());
            case 1 -> both("restoreSnapshot()", () -> game.restoreSnapshot(), () -> reference.restoreSnapshot());
            default -> {
                for (int i = random.nextInt(6); i >= 0; i--) {
                    both("undo()", () -> game.undo(), () -> reference.undo());
                }
            }
        }
    }

    private void wrongMove() {
        int number = about(16);
        switch (random.nextInt(5)) {
            case 0, 1 -> give(number);
            case 2, 3 -> place(number);
            default -> both("restart(" + (number - 7) + ")", () -> game.restart(number - 7),
                () -> reference.restart(number - 7));
        }
    }

    private void ask(int question, int n) {
        String a = "(" + n + ")";
        switch (question) {
            case 0 -> both("playerToMove", () -> game.playerToMove(), () -> reference.now.mover());
            case 1 -> both("gift", () -> game.gift(), () -> reference.now.gift);
            case 2 -> both("pieceOn" + a, () -> game.pieceOn(n), () -> reference.pieceOn(n));
            case 3 -> both("cellOf" + a, () -> game.cellOf(n), () -> reference.cellOf(n));
            case 4 -> both("placed", () -> game.placed(), () -> reference.now.placed());
            case 5 -> both("winner", () -> game.winner(), () -> reference.now.winner);
            case 6 -> both("isOver", () -> game.isOver(), () -> reference.now.over());
            case 7 -> both("lines", () -> game.lines(), () -> reference.now.lines().size());
            case 8 -> both("piecesOn" + a, () -> game.piecesOn(n), () -> reference.piecesOn(n));
            case 9 -> both("sharedOn" + a, () -> game.sharedOn(n), () -> reference.sharedOn(n));
            case 10 -> both("wonLines", () -> game.wonLines(), () -> reference.now.won());
            case 11 -> both("winsOf" + a, () -> game.winsOf(n), () -> reference.winsOf(n));
            case 12 -> both("winningCell" + a, () -> game.winningCell(n), () -> reference.winningCell(n));
            case 13 -> both("safeByTrying", () -> game.safeByTrying(), () -> reference.now.safe());
            case 14 -> both("safeByLines", () -> game.safeByLines(), () -> reference.now.safe());
            case 15 -> both("rule", () -> game.rule(), () -> reference.now.rule);
            case 16 -> both("recordedStates", () -> game.recordedStates(), () -> reference.recordedStates());
            case 17 -> both("textError", () -> game.textError(), () -> reference.textError());
            case 18 -> both("impossibleMove", () -> game.impossibleMove(), () -> reference.impossibleMove());
            case 19 -> search();
            default -> { }
        }
    }

    private void search() {
        String value = both("outcome", () -> game.outcome(), () -> reference.outcome());
        both("bestMove", () -> game.bestMove(), () -> reference.bestMove());
        if (!value.isEmpty() && !value.startsWith("throws")) {
            SEEN[Integer.parseInt(value) + 1]++;
        }
    }

    private void askOne() {
        int question = random.nextInt(20);
        ask(question, about(question == 11 ? 2 : question == 8 || question == 9 ? 19 : 16));
    }

    private void askAll() {
        for (int question = 0; question < 20; question++) {
            boolean numbered = question == 2 || question == 3 || question == 8 || question == 9
                || question == 11 || question == 12;
            for (int n = numbered ? -1 : 0; n < (numbered ? 20 : 1); n++) {
                ask(question, n);
            }
        }
    }

    private void run() {
        int quiet = random.nextInt(5) == 0 ? 24 + random.nextInt(12) : 0;
        for (int i = 0; i < quiet; i++) {
            move();
        }
        if (quiet > 0) {
            askAll();
        }
        int talk = 1 + random.nextInt(10);
        while (calls < CALLS) {
            int choice = random.nextInt(40);
            if (choice < 24) {
                move();
            } else if (choice < 26) {
                wrongMove();
            } else if (choice < 27) {
                text();
            } else if (choice < 28) {
                back();
            } else if (choice % 10 < talk) {
                askOne();
            }
            if (reference.now.placed() >= 12 && random.nextInt(6) == 0) {
                search();
            }
        }
        if (reference.now.over()) {
            SEEN[reference.now.winner < 0 ? 3 : 4]++;
        }
    }

    public static void main(String[] args) {
        int wrong = 0;
        for (int seed = 1; seed <= RUNS; seed++) {
            ReferenceRunsTest test = new ReferenceRunsTest(seed);
            test.run();
            wrong += test.wrong;
        }
        System.out.println("outcomes seen: " + SEEN[0] + " times -1, " + SEEN[1] + " times 0, " + SEEN[2]
            + " times 1; runs that ended in a draw " + SEEN[3] + ", in a win " + SEEN[4]);
        System.out.println(wrong == 0 ? "all answers are as due" : wrong + " answers are not as due");
        if (wrong != 0) {
            System.exit(1);
        }
    }
}
