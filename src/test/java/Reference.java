import java.util.ArrayDeque;
import java.util.ArrayList;
import java.util.Deque;
import java.util.List;

/**
 * The document told a second time, as slowly and as directly as can be: pieces in an array, each state a copy of
 * its own, regular expressions for the texts, and a search without any cut. It shares no idea with the class.
 */
final class Reference {
    private static final String NUMBER = "(1[0-5]|[0-9])";
    private static final String VALID = "[gp]" + NUMBER + "(;[gp]" + NUMBER + ")*";
    private static final String BEGINNING = "([gp]" + NUMBER + ";)*([gp]" + NUMBER + "?)?";

    /** One state; a move makes a new one. */
    static final class State {
        private static final List<int[]> WITHOUT_SQUARES = lines(false);
        private static final List<int[]> WITH_SQUARES = lines(true);

        final int[] pieceOn = new int[16];
        int gift = -1;
        int giver = 0;
        int winner = -1;
        int rule = 0;
        final int[] wins = new int[2];

        State() {
            java.util.Arrays.fill(pieceOn, -1);
        }

        State copy() {
            State s = new State();
            System.arraycopy(pieceOn, 0, s.pieceOn, 0, 16);
            s.gift = gift;
            s.giver = giver;
            s.winner = winner;
            s.rule = rule;
            System.arraycopy(wins, 0, s.wins, 0, 2);
            return s;
        }

        int placed() {
            int n = 0;
            for (int p : pieceOn) {
                n += p >= 0 ? 1 : 0;
            }
            return n;
        }

        boolean over() {
            return winner >= 0 || placed() == 16;
        }

        int mover() {
            return over() ? -1 : gift < 0 ? giver : 1 - giver;
        }

        int cellOf(int piece) {
            for (int c = 0; c < 16; c++) {
                if (pieceOn[c] == piece) {
                    return c;
                }
            }
            return -1;
        }

        List<int[]> lines() {
            return rule == 1 ? WITH_SQUARES : WITHOUT_SQUARES;
        }

        private static List<int[]> lines(boolean squares) {
            List<int[]> all = new ArrayList<>();
            for (int r = 0; r < 4; r++) {
                all.add(new int[] {at(r, 0), at(r, 1), at(r, 2), at(r, 3)});
            }
            for (int c = 0; c < 4; c++) {
                all.add(new int[] {at(0, c), at(1, c), at(2, c), at(3, c)});
            }
            all.add(new int[] {0, 5, 10, 15});
            all.add(new int[] {3, 6, 9, 12});
            if (squares) {
                for (int r = 0; r < 3; r++) {
                    for (int c = 0; c < 3; c++) {
                        all.add(new int[] {at(r, c), at(r, c + 1), at(r + 1, c), at(r + 1, c + 1)});
                    }
                }
            }
            return all;
        }

        private static int at(int r, int c) {
            return 4 * r + c;
        }

        List<Integer> piecesOn(int line) {
            List<Integer> found = new ArrayList<>();
            for (int cell : lines().get(line)) {
                if (pieceOn[cell] >= 0) {
                    found.add(pieceOn[cell]);
                }
            }
            return found;
        }

        static int shared(List<Integer> pieces) {
            int shared = 0;
            for (int t = 0; t < 4; t++) {
                int having = 0;
                for (int p : pieces) {
                    having += (p >> t) % 2;
                }
                if (having == pieces.size()) {
                    shared += 1 << t;
                }
                if (having == 0) {
                    shared += 1 << (4 + t);
                }
            }
            return shared;
        }

        int won() {
            int n = 0;
            for (int line = 0; line < lines().size(); line++) {
                List<Integer> pieces = piecesOn(line);
                n += pieces.size() == 4 && shared(pieces) != 0 ? 1 : 0;
            }
            return n;
        }

        boolean canGive(int piece) {
            return !over() && gift < 0 && cellOf(piece) < 0;
        }

        boolean canPlace(int cell) {
            return !over() && gift >= 0 && pieceOn[cell] < 0;
        }

        State given(int piece) {
            State s = copy();
            s.gift = piece;
            return s;
        }

        State placedOn(int cell) {
            State s = copy();
            s.pieceOn[cell] = gift;
            s.gift = -1;
            s.giver = 1 - giver;
            if (s.won() > 0) {
                s.winner = s.giver;
                s.wins[s.winner]++;
            }
            return s;
        }

        int winningCell(int piece) {
            if (over() || cellOf(piece) >= 0) {
                return -1;
            }
            for (int c = 0; c < 16; c++) {
                if (pieceOn[c] < 0 && given(piece).placedOn(c).winner >= 0) {
                    return c;
                }
            }
            return -1;
        }

        int safe() {
            int safe = 0;
            for (int p = 0; p < 16 && !over(); p++) {
                if (p != gift && cellOf(p) < 0 && winningCell(p) < 0) {
                    safe += 1 << p;
                }
            }
            return safe;
        }

        List<Integer> moves() {
            List<Integer> moves = new ArrayList<>();
            for (int n = 0; n < 16; n++) {
                if (gift < 0 ? canGive(n) : canPlace(n)) {
                    moves.add(n);
                }
            }
            return moves;
        }

        State moved(int number) {
            return gift < 0 ? given(number) : placedOn(number);
        }

        /** 1 if that player wins with best play of both, -1 if the other one does, and 0 if nobody does. */
        int valueFor(int player) {
            if (winner >= 0) {
                return winner == player ? 1 : -1;
            }
            if (over()) {
                return 0;
            }
            int best = -2;
            for (int number : moves()) {
                best = Math.max(best, moved(number).valueFor(mover()));
            }
            return mover() == player ? best : -best;
        }

        int bestMove() {
            int value = valueFor(mover());
            for (int number : moves()) {
                if (moved(number).valueFor(mover()) == value) {
                    return number;
                }
            }
            return -1;
        }
    }

    State now = new State();
    private State snapshot = null;
    private final Deque<State> recorded = new ArrayDeque<>();
    private String text = "";

    private void become(State next) {
        recorded.addLast(now);
        if (recorded.size() > 4) {
            recorded.removeFirst();
        }
        now = next;
    }

    private static void index(int value, int bound) {
        if (value < 0 || value >= bound) {
            throw new IndexOutOfBoundsException();
        }
    }

    private static void state(boolean good) {
        if (!good) {
            throw new IllegalStateException();
        }
    }

    int give(int piece) {
        index(piece, 16);
        state(now.canGive(piece));
        become(now.given(piece));
        return now.mover();
    }

    boolean place(int cell) {
        index(cell, 16);
        state(now.canPlace(cell));
        become(now.placedOn(cell));
        return now.winner >= 0;
    }

    int restart(int rule) {
        if (rule != 0 && rule != 1) {
            throw new IllegalArgumentException();
        }
        int before = now.placed();
        State next = new State();
        next.rule = rule;
        next.wins[0] = now.wins[0];
        next.wins[1] = now.wins[1];
        become(next);
        return before;
    }

    int type(char character) {
        state(text.length() < 60);
        text += character;
        return text.length();
    }

    int clearText() {
        int before = text.length();
        text = "";
        return before;
    }

    int textError() {
        if (text.matches(VALID)) {
            return -1;
        }
        for (int i = 0; i < text.length(); i++) {
            if (!text.substring(0, i + 1).matches(BEGINNING)) {
                return i;
            }
        }
        return text.length();
    }

    /** The states after each move that can be made. */
    private List<State> played() {
        state(text.matches(VALID));
        List<State> states = new ArrayList<>();
        State s = now;
        for (String move : text.split(";")) {
            int number = Integer.parseInt(move.substring(1));
            if (move.charAt(0) == 'g' ? !s.canGive(number) : !s.canPlace(number)) {
                break;
            }
            s = s.moved(number);
            states.add(s);
        }
        return states;
    }

    int impossibleMove() {
        int made = played().size();
        return made == text.split(";").length ? -1 : made;
    }

    int carryOut() {
        List<State> states = played();
        state(states.size() == text.split(";").length);
        become(states.get(states.size() - 1));
        return states.size();
    }

    int undo() {
        state(!recorded.isEmpty());
        now = recorded.removeLast();
        return recorded.size();
    }

    int takeSnapshot() {
        snapshot = now;
        return now.placed();
    }

    int restoreSnapshot() {
        state(snapshot != null);
        become(snapshot);
        return now.placed();
    }

    int pieceOn(int cell) {
        index(cell, 16);
        return now.pieceOn[cell];
    }

    int cellOf(int piece) {
        index(piece, 16);
        return now.cellOf(piece);
    }

    int piecesOn(int line) {
        index(line, now.lines().size());
        return now.piecesOn(line).size();
    }

    int sharedOn(int line) {
        index(line, now.lines().size());
        return State.shared(now.piecesOn(line));
    }

    int winsOf(int player) {
        index(player, 2);
        return now.wins[player];
    }

    int winningCell(int piece) {
        index(piece, 16);
        return now.winningCell(piece);
    }

    int outcome() {
        state(!now.over() && now.placed() >= 12);
        return now.valueFor(now.mover());
    }

    int bestMove() {
        state(!now.over() && now.placed() >= 12);
        return now.bestMove();
    }

    int recordedStates() {
        return recorded.size();
    }
}
