/**
 * A game in which each of two players gives the other one a piece of four traits to place, and who completes a
 * line whose pieces share a trait has won.
 */
public final class HazelGift {
    public static final int NONE = -1;
    public static final int LINES = 0;
    public static final int SQUARES = 1;

    private static final int CELLS = 16;
    private static final int PIECES = 16;
    private static final int TRAITS = 4;
    private static final int PLAYERS = 2;
    private static final int SEARCHED_CELLS = 4;

    private final Game game;
    // What would be is tried out here, so that the game itself stays as it is.
    private final Game trial;
    private final Game snapshot;
    private boolean hasSnapshot;
    private final History history;
    private final MoveText text;

    public HazelGift() {
        game = new Game();
        trial = new Game();
        snapshot = new Game();
        hasSnapshot = false;
        history = new History();
        text = new MoveText();
    }

    // ---- actions

    public int give(int piece) throws IndexOutOfBoundsException, IllegalStateException {
        requirePiece(piece);
        if (!game.canGive(piece)) {
            throw new IllegalStateException("the piece cannot be given");
        }
        history.record(game);
        game.setGift(piece);
        return game.mover();
    }

    public boolean place(int cell) throws IndexOutOfBoundsException, IllegalStateException {
        requireCell(cell);
        if (!game.canPut(cell)) {
            throw new IllegalStateException("nothing can be placed there");
        }
        history.record(game);
        return game.putGift(cell);
    }

    public int restart(int rule) throws IllegalArgumentException {
        if (rule != LINES && rule != SQUARES) {
            throw new IllegalArgumentException("no such rule");
        }
        int before = game.board().count();
        history.record(game);
        game.begin(rule);
        return before;
    }

    // ---- move texts

    public int type(char character) throws IllegalStateException {
        if (text.isFull()) {
            throw new IllegalStateException("the text is full");
        }
        text.append(character);
        return text.length();
    }

    public int clearText() {
        int before = text.length();
        text.empty();
        return before;
    }

    public int textError() {
        return text.firstError();
    }

    public int impossibleMove() throws IllegalStateException {
        requireValidText();
        return tryText();
    }

    public int carryOut() throws IllegalStateException {
        requireValidText();
        if (tryText() != NONE) {
            throw new IllegalStateException("a move cannot be made");
        }
        history.record(game);
        game.copyFrom(trial);
        return text.moves();
    }

    // ---- undo, snapshot

    public int undo() throws IllegalStateException {
        if (history.size() == 0) {
            throw new IllegalStateException("no state is recorded");
        }
        history.takeBack(game);
        return history.size();
    }

    public int takeSnapshot() {
        snapshot.copyFrom(game);
        hasSnapshot = true;
        return game.board().count();
    }

    public int restoreSnapshot() throws IllegalStateException {
        if (!hasSnapshot) {
            throw new IllegalStateException("there is no snapshot");
        }
        history.record(game);
        game.copyFrom(snapshot);
        return game.board().count();
    }

    // ---- the game

    public int playerToMove() {
        return game.mover();
    }

    public int gift() {
        return game.pending();
    }

    public int pieceOn(int cell) throws IndexOutOfBoundsException {
        requireCell(cell);
        return game.board().pieceAt(cell);
    }

    public int cellOf(int piece) throws IndexOutOfBoundsException {
        requirePiece(piece);
        return game.board().cellWith(piece);
    }

    public int placed() {
        return game.board().count();
    }

    public int winner() {
        return game.victor();
    }

    public boolean isOver() {
        return game.hasEnded();
    }

    public int lines() {
        return game.board().lineCount();
    }

    public int piecesOn(int line) throws IndexOutOfBoundsException {
        requireLine(line);
        return game.board().countOn(line);
    }

    public int sharedOn(int line) throws IndexOutOfBoundsException {
        requireLine(line);
        return game.board().sharedTraits(line);
    }

    public int wonLines() {
        return game.board().wonCount();
    }

    public int winsOf(int player) throws IndexOutOfBoundsException {
        if (player < 0 || player >= PLAYERS) {
            throw new IndexOutOfBoundsException("no such player");
        }
        return game.victoriesOf(player);
    }

    // ---- what would be; nothing changes

    public int winningCell(int piece) throws IndexOutOfBoundsException {
        requirePiece(piece);
        if (game.hasEnded() || game.board().holds(piece)) {
            return NONE;
        }
        trial.copyFrom(game);
        return trial.board().firstWinningCell(piece);
    }

    public int safeByTrying() {
        if (game.hasEnded()) {
            return 0;
        }
        trial.copyFrom(game);
        int safe = 0;
        for (int piece = 0; piece < PIECES; piece++) {
            if (game.isFree(piece) && trial.board().firstWinningCell(piece) == NONE) {
                safe |= 1 << piece;
            }
        }
        return safe;
    }

    public int safeByLines() {
        if (game.hasEnded()) {
            return 0;
        }
        int dangerous = game.board().dangerousTraits();
        int safe = 0;
        for (int piece = 0; piece < PIECES; piece++) {
            if (game.isFree(piece) && (traitsOf(piece) & dangerous) == 0) {
                safe |= 1 << piece;
            }
        }
        return safe;
    }

    public int outcome() throws IllegalStateException {
        requireSearchable();
        trial.copyFrom(game);
        return EndSearch.valueOf(trial);
    }

    public int bestMove() throws IllegalStateException {
        requireSearchable();
        trial.copyFrom(game);
        return EndSearch.leastBestMove(trial);
    }

    public int rule() {
        return game.board().lineRule();
    }

    public int recordedStates() {
        return history.size();
    }

    // ---- inside

    private static void requirePiece(int piece) {
        if (piece < 0 || piece >= PIECES) {
            throw new IndexOutOfBoundsException("no such piece");
        }
    }

    private static void requireCell(int cell) {
        if (cell < 0 || cell >= CELLS) {
            throw new IndexOutOfBoundsException("no such cell");
        }
    }

    private void requireLine(int line) {
        if (line < 0 || line >= game.board().lineCount()) {
            throw new IndexOutOfBoundsException("no such line");
        }
    }

    private void requireValidText() {
        if (text.firstError() != NONE) {
            throw new IllegalStateException("the text is not valid");
        }
    }

    private void requireSearchable() {
        if (game.hasEnded() || game.board().emptyCount() > SEARCHED_CELLS) {
            throw new IllegalStateException("the end cannot be searched");
        }
    }

    /** Makes the moves of a valid text on the trial; answers the first that cannot be made. */
    private int tryText() {
        trial.copyFrom(game);
        int move = 0;
        int start = 0;
        for (int end = 0; end <= text.length(); end++) {
            if (text.endsMove(end)) {
                if (!trial.tryMove(text.isGift(start), text.number(start + 1, end))) {
                    return move;
                }
                move++;
                start = end + 1;
            }
        }
        return NONE;
    }

    /** The traits of one piece in the form of sharedOn. */
    private static int traitsOf(int piece) {
        return piece | (~piece & 15) << TRAITS;
    }

    /** The pieces on the cells, and the lines that the rule gives them. */
    private static final class Board {
        // For each line its cells: the bit c is set for the cell c.
        private static final int[] LINE_CELLS = {
            0x000F, 0x00F0, 0x0F00, 0xF000,
            0x1111, 0x2222, 0x4444, 0x8888,
            0x8421, 0x1248,
            0x0033, 0x0066, 0x00CC,
            0x0330, 0x0660, 0x0CC0,
            0x3300, 0x6600, 0xCC00,
        };
        private static final int ALL_LINES = 19;
        private static final int LINES_WITHOUT_SQUARES = 10;
        private static final int ONE_CELL_LEFT = 3;

        private int rule;
        // The bit c is set if the cell c has a piece.
        private int filled;
        // The bit p is set if the piece p is on the board.
        private int pieces;
        // Of the element t the bit c is set if the piece on the cell c has the trait t.
        private final int[] present;

        Board() {
            rule = LINES;
            filled = 0;
            pieces = 0;
            present = new int[TRAITS];
        }

        void copyFrom(Board other) {
            rule = other.rule;
            filled = other.filled;
            pieces = other.pieces;
            for (int trait = 0; trait < present.length && trait < other.present.length; trait++) {
                present[trait] = other.present[trait];
            }
        }

        void empty(int newRule) {
            rule = newRule;
            filled = 0;
            pieces = 0;
            for (int trait = 0; trait < present.length; trait++) {
                present[trait] = 0;
            }
        }

        int lineRule() {
            return rule;
        }

        int count() {
            return Integer.bitCount(filled);
        }

        int emptyCount() {
            return CELLS - count();
        }

        boolean holds(int piece) {
            return (pieces & 1 << piece) != 0;
        }

        boolean isEmpty(int cell) {
            return (filled & 1 << cell) == 0;
        }

        int pieceAt(int cell) {
            if (isEmpty(cell)) {
                return NONE;
            }
            int piece = 0;
            for (int trait = 0; trait < present.length; trait++) {
                piece |= (present[trait] >> cell & 1) << trait;
            }
            return piece;
        }

        int cellWith(int piece) {
            for (int cell = 0; cell < CELLS; cell++) {
                if (pieceAt(cell) == piece) {
                    return cell;
                }
            }
            return NONE;
        }

        void put(int piece, int cell) {
            filled |= 1 << cell;
            pieces |= 1 << piece;
            for (int trait = 0; trait < present.length; trait++) {
                present[trait] |= (piece >> trait & 1) << cell;
            }
        }

        void lift(int piece, int cell) {
            filled &= ~(1 << cell);
            pieces &= ~(1 << piece);
            for (int trait = 0; trait < present.length; trait++) {
                present[trait] &= ~(1 << cell);
            }
        }

        int lineCount() {
            return rule == SQUARES ? ALL_LINES : LINES_WITHOUT_SQUARES;
        }

        private static int cellsOn(int line) {
            return line >= 0 && line < LINE_CELLS.length ? LINE_CELLS[line] : 0;
        }

        int countOn(int line) {
            return Integer.bitCount(filled & cellsOn(line));
        }

        int sharedTraits(int line) {
            int cells = filled & cellsOn(line);
            int shared = 0;
            for (int trait = 0; trait < present.length; trait++) {
                int with = present[trait] & cells;
                if (with == cells) {
                    shared |= 1 << trait;
                }
                if (with == 0) {
                    shared |= 1 << TRAITS + trait;
                }
            }
            return shared;
        }

        // Apart from sharedTraits, since the search asks this most often and can stop at the first trait.
        private boolean isWon(int line) {
            if (line < 0 || line >= LINE_CELLS.length) {
                return false;
            }
            int cells = LINE_CELLS[line];
            if ((filled & cells) != cells) {
                return false;
            }
            for (int trait = 0; trait < present.length; trait++) {
                int with = present[trait] & cells;
                if (with == cells || with == 0) {
                    return true;
                }
            }
            return false;
        }

        int wonCount() {
            int won = 0;
            for (int line = 0; line < lineCount(); line++) {
                if (isWon(line)) {
                    won++;
                }
            }
            return won;
        }

        boolean hasWonLine() {
            for (int line = 0; line < lineCount(); line++) {
                if (isWon(line)) {
                    return true;
                }
            }
            return false;
        }

        /** Tries the piece on each empty cell. */
        int firstWinningCell(int piece) {
            for (int cell = 0; cell < CELLS; cell++) {
                if (isEmpty(cell) && winsOn(piece, cell)) {
                    return cell;
                }
            }
            return NONE;
        }

        private boolean winsOn(int piece, int cell) {
            put(piece, cell);
            boolean wins = hasWonLine();
            lift(piece, cell);
            return wins;
        }

        /** The traits by which a further piece would win one of the lines with three pieces. */
        int dangerousTraits() {
            int traits = 0;
            for (int line = 0; line < lineCount(); line++) {
                if (countOn(line) == ONE_CELL_LEFT) {
                    traits |= sharedTraits(line);
                }
            }
            return traits;
        }
    }

    /** The whole state that is recorded: the game as it stands, and the victories so far. */
    private static final class Game {
        private final Board board;
        private int gift;
        private int winner;
        private final int[] victories;

        Game() {
            board = new Board();
            gift = NONE;
            winner = NONE;
            victories = new int[PLAYERS];
        }

        void copyFrom(Game other) {
            board.copyFrom(other.board);
            gift = other.gift;
            winner = other.winner;
            for (int player = 0; player < victories.length && player < other.victories.length; player++) {
                victories[player] = other.victories[player];
            }
        }

        void begin(int rule) {
            board.empty(rule);
            gift = NONE;
            winner = NONE;
        }

        Board board() {
            return board;
        }

        int pending() {
            return gift;
        }

        int victor() {
            return winner;
        }

        int victoriesOf(int player) {
            return player >= 0 && player < victories.length ? victories[player] : 0;
        }

        boolean hasEnded() {
            return winner != NONE || board.emptyCount() == 0;
        }

        int mover() {
            if (hasEnded()) {
                return NONE;
            }
            // Who has placed a piece gives the next one, so the giver changes with each piece on the board.
            int giver = board.count() % PLAYERS;
            return gift == NONE ? giver : 1 - giver;
        }

        boolean isFree(int piece) {
            return piece != gift && !board.holds(piece);
        }

        boolean canGive(int piece) {
            return !hasEnded() && gift == NONE && !board.holds(piece);
        }

        boolean canPut(int cell) {
            return gift != NONE && board.isEmpty(cell);
        }

        void setGift(int piece) {
            gift = piece;
        }

        boolean putGift(int cell) {
            int player = mover();
            board.put(gift, cell);
            gift = NONE;
            if (!board.hasWonLine()) {
                return false;
            }
            winner = player;
            if (player >= 0 && player < victories.length) {
                victories[player]++;
            }
            return true;
        }

        /** Makes the move if it can be made; answers whether it could. */
        boolean tryMove(boolean isGift, int number) {
            if (isGift) {
                if (!canGive(number)) {
                    return false;
                }
                setGift(number);
                return true;
            }
            if (!canPut(number)) {
                return false;
            }
            putGift(number);
            return true;
        }
    }

    /** The latest recorded states, in a ring. */
    private static final class History {
        private static final int KEPT = 4;

        private final Game[] states;
        private int next;
        private int size;

        History() {
            states = new Game[KEPT];
            for (int i = 0; i < states.length; i++) {
                states[i] = new Game();
            }
            next = 0;
            size = 0;
        }

        int size() {
            return size;
        }

        void record(Game game) {
            Game place = stateAt(next);
            if (place != null) {
                place.copyFrom(game);
                next = (next + 1) % KEPT;
                size = Math.min(size + 1, KEPT);
            }
        }

        /** Puts the state that was recorded last into the game, and discards it. */
        void takeBack(Game game) {
            int last = (next + KEPT - 1) % KEPT;
            Game state = stateAt(last);
            if (size > 0 && state != null) {
                game.copyFrom(state);
                next = last;
                size--;
            }
        }

        private Game stateAt(int index) {
            return index >= 0 && index < states.length ? states[index] : null;
        }
    }

    /** The move text, and what can be read in it. */
    private static final class MoveText {
        private static final int CAPACITY = 60;
        // What may come next in a text.
        private static final int KIND = 0;
        private static final int NUMBER = 1;
        private static final int SECOND_DIGIT_OR_END = 2;
        private static final int END = 3;
        private static final int NOTHING = 4;

        private final char[] characters;
        private int length;

        MoveText() {
            characters = new char[CAPACITY];
            length = 0;
        }

        int length() {
            return length;
        }

        boolean isFull() {
            return length >= CAPACITY;
        }

        void append(char character) {
            if (length >= 0 && length < characters.length) {
                characters[length] = character;
                length++;
            }
        }

        void empty() {
            length = 0;
        }

        int firstError() {
            int due = KIND;
            for (int i = 0; i < length; i++) {
                due = dueAfter(due, characterAt(i));
                if (due == NOTHING) {
                    return i;
                }
            }
            return due == SECOND_DIGIT_OR_END || due == END ? NONE : length;
        }

        private static int dueAfter(int due, char character) {
            switch (due) {
                case KIND:
                    return character == 'g' || character == 'p' ? NUMBER : NOTHING;
                case NUMBER:
                    if (character == '1') {
                        return SECOND_DIGIT_OR_END;
                    }
                    return character >= '0' && character <= '9' ? END : NOTHING;
                case SECOND_DIGIT_OR_END:
                    if (character >= '0' && character <= '5') {
                        return END;
                    }
                    return character == ';' ? KIND : NOTHING;
                case END:
                    return character == ';' ? KIND : NOTHING;
                default:
                    return NOTHING;
            }
        }

        private char characterAt(int index) {
            return index >= 0 && index < characters.length ? characters[index] : ';';
        }

        /** Whether a move of a valid text ends before this index. */
        boolean endsMove(int index) {
            return index == length || characterAt(index) == ';';
        }

        int moves() {
            int moves = 0;
            for (int i = 0; i <= length; i++) {
                if (endsMove(i)) {
                    moves++;
                }
            }
            return moves;
        }

        boolean isGift(int start) {
            return characterAt(start) == 'g';
        }

        int number(int start, int end) {
            int number = 0;
            for (int i = start; i < end; i++) {
                number = number * 10 + (characterAt(i) - '0');
            }
            return number;
        }
    }

    /** Plays the end of a game on a board that is given to it, and leaves the board as it was. */
    private static final class EndSearch {
        private static final int WON = 1;
        private static final int DRAWN = 0;
        private static final int LOST = -1;

        static int valueOf(Game game) {
            int left = game.board().emptyCount();
            if (game.pending() == NONE) {
                return valueToGiver(game.board(), left);
            }
            return valueToPlacer(game.board(), game.pending(), left);
        }

        static int leastBestMove(Game game) {
            int best = valueOf(game);
            // There are as many pieces as cells, so that one count goes through either.
            for (int number = 0; number < PIECES; number++) {
                if (canMove(game, number) && valueOfMove(game, number) == best) {
                    return number;
                }
            }
            return NONE;
        }

        private static boolean canMove(Game game, int number) {
            return game.pending() == NONE ? game.canGive(number) : game.canPut(number);
        }

        private static int valueOfMove(Game game, int number) {
            int left = game.board().emptyCount();
            if (game.pending() == NONE) {
                return -valueToPlacer(game.board(), number, left);
            }
            return valueOfPlacing(game.board(), game.pending(), number, left);
        }

        // The cells that are left bound the depth: each placing takes one, and without any the game is drawn.
        private static int valueToGiver(Board board, int left) {
            if (left <= 0 || left > SEARCHED_CELLS) {
                return DRAWN;
            }
            int best = LOST;
            for (int piece = 0; piece < PIECES && best != WON; piece++) {
                if (!board.holds(piece)) {
                    best = Math.max(best, -valueToPlacer(board, piece, left));
                }
            }
            return best;
        }

        private static int valueToPlacer(Board board, int piece, int left) {
            if (left <= 0 || left > SEARCHED_CELLS) {
                return DRAWN;
            }
            int best = LOST;
            for (int cell = 0; cell < CELLS && best != WON; cell++) {
                if (board.isEmpty(cell)) {
                    best = Math.max(best, valueOfPlacing(board, piece, cell, left));
                }
            }
            return best;
        }

        private static int valueOfPlacing(Board board, int piece, int cell, int left) {
            board.put(piece, cell);
            int value = board.hasWonLine() ? WON : valueToGiver(board, left - 1);
            board.lift(piece, cell);
            return value;
        }
    }
}
