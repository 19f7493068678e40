import java.util.function.Supplier;

/** The sentences of the document's terms. */
abstract class TermSentences extends Sentences {
    // For each line its cells, as the document tells them.
    private static final int[][] CELLS_ON = {
        {0, 1, 2, 3}, {4, 5, 6, 7}, {8, 9, 10, 11}, {12, 13, 14, 15},
        {0, 4, 8, 12}, {1, 5, 9, 13}, {2, 6, 10, 14}, {3, 7, 11, 15},
        {0, 5, 10, 15}, {3, 6, 9, 12},
        {0, 1, 4, 5}, {1, 2, 5, 6}, {2, 3, 6, 7},
        {4, 5, 8, 9}, {5, 6, 9, 10}, {6, 7, 10, 11},
        {8, 9, 12, 13}, {9, 10, 13, 14}, {10, 11, 14, 15},
    };

    // Beginnings of texts, and the characters that a valid text can have behind them.
    private static final String[][] NEXT = {
        {"", "gp"}, {"g", "0123456789"}, {"p", "0123456789"}, {"g0", ";"}, {"g1", "012345;"}, {"p1", "012345;"},
        {"g2", ";"}, {"p9", ";"}, {"g10", ";"}, {"p15", ";"}, {"p15;", "gp"}, {"g1;p", "0123456789"},
        {"p3;g1", "012345;"}, {"p3;g0", ";"}, {"p13;g12", ";"},
    };

    static void all() {
        in("What it is");
        says("An object is used for at most 512 calls after it has been made; what later calls answer is free.",
            TermSentences::lastCall);
        in("Terms");
        pieces();
        board();
        lines();
        playing();
        whatWouldBe();
        moveTexts();
        undo();
        exceptions();
        constants();
        callsOfTheFace();
    }

    private static void lastCall() {
        HazelGift x = new HazelGift();
        for (int call = 1; call <= 510; call++) {
            x.restart(call % 2);
        }
        is("the 511th call, give(15)", 1, x.give(15));
        is("the 512th call, gift()", 15, x.gift());
        HazelGift y = new HazelGift();
        for (int call = 1; call <= 128; call++) {
            play(y, "g0;p15");
            y.undo();
            is("undo(), the call " + 4 * call, 0, y.undo());
        }
    }

    private static void pieces() {
        says("There are 16 pieces, 0 to 15.", () -> {
            for (int piece = 0; piece < 16; piece++) {
                is("gift()", piece, played("g" + piece).gift());
                is("pieceOn(9)", piece, played("g" + piece + ";p9").pieceOn(9));
            }
            refuses("give(-1)", INDEX, () -> busy(""), x -> x.give(-1));
            refuses("give(16)", INDEX, () -> busy(""), x -> x.give(16));
            is("placed() of all", 16, played(DRAWN).placed());
        });
        says("A piece has four traits, 0 to 3, each present or absent: the trait t is present if the bit t of its "
            + "number is 1.", () -> {
            for (int piece = 0; piece < 16; piece++) {
                int traits = 0;
                for (int trait = 0; trait < 4; trait++) {
                    boolean isPresent = piece / (1 << trait) % 2 == 1;
                    traits += 1 << (isPresent ? trait : 4 + trait);
                }
                is("sharedOn(0) of the piece " + piece, traits, played("g" + piece + ";p0").sharedOn(0));
            }
            is("sharedOn(0) of the piece without a trait", 240, played("g0;p0").sharedOn(0));
            is("sharedOn(0) of the piece with all traits", 15, played("g15;p0").sharedOn(0));
        });
        says("Some pieces share a trait if it is present in all of them, or absent from all of them.", () -> {
            is("present in all of three", 8, played("g8;p0;g9;p1;g14;p2").sharedOn(0));
            is("present in two of three", 0, played("g8;p0;g9;p1;g6;p2").sharedOn(0));
            is("absent from all of three", 128, played("g7;p0;g6;p1;g1;p2").sharedOn(0));
            is("absent from two of three", 0, played("g7;p0;g6;p1;g9;p2").sharedOn(0));
            is("one present, one absent", 2 + 128, played("g7;p0;g2;p1").sharedOn(0));
            is("two opposites", 0, played("g0;p0;g15;p1").sharedOn(0));
            eachTrait(TermSentences::fourWithOneTrait);
            eachTrait(TermSentences::threeOfFourWithOneTrait);
        });
    }

    interface TraitTest {
        void of(int trait, boolean isPresent);
    }

    private static void eachTrait(TraitTest test) {
        for (int trait = 0; trait < 4; trait++) {
            test.of(trait, true);
            test.of(trait, false);
        }
    }

    /** The piece with that trait or without it, and with these of the other three traits. */
    private static int piece(int trait, boolean isPresent, int others) {
        int low = others & (1 << trait) - 1;
        int high = (others & ~((1 << trait) - 1)) << 1;
        return low | high | (isPresent ? 1 << trait : 0);
    }

    private static String four(int trait, boolean first, boolean last) {
        return "g" + piece(trait, first, 0) + ";p4;g" + piece(trait, first, 7) + ";p5;g" + piece(trait, first, 1)
            + ";p6;g" + piece(trait, last, 2) + ";p7";
    }

    private static void fourWithOneTrait(int trait, boolean isPresent) {
        HazelGift x = played(four(trait, isPresent, isPresent));
        is("sharedOn(1) of four", 1 << (isPresent ? trait : 4 + trait), x.sharedOn(1));
        is("wonLines() of four", 1, x.wonLines());
    }

    private static void threeOfFourWithOneTrait(int trait, boolean isPresent) {
        HazelGift x = played(four(trait, isPresent, !isPresent));
        is("sharedOn(1) of three and another one", 0, x.sharedOn(1));
        is("wonLines() of three and another one", 0, x.wonLines());
    }

    private static void board() {
        says("The board has 16 cells, 0 to 15: the cell in row r and column c (0 to 3) is 4 * r + c.", () -> {
            for (int r = 0; r < 4; r++) {
                for (int c = 0; c < 4; c++) {
                    int cell = 4 * r + c;
                    HazelGift x = played("g6;p" + cell);
                    is("pieceOn(" + cell + ")", 6, x.pieceOn(cell));
                    is("cellOf(6)", cell, x.cellOf(6));
                    for (int i = 0; i < 4; i++) {
                        is("piecesOn() of the row " + i, i == r ? 1 : 0, x.piecesOn(i));
                        is("piecesOn() of the column " + i, i == c ? 1 : 0, x.piecesOn(4 + i));
                    }
                }
            }
            refuses("pieceOn(-1)", INDEX, () -> busy(""), x -> x.pieceOn(-1));
            refuses("pieceOn(16)", INDEX, () -> busy(""), x -> x.pieceOn(16));
        });
        says("A line has 4 cells.", () -> {
            int[] cells = new int[19];
            for (int cell = 0; cell < 16; cell++) {
                HazelGift x = squares("g6;p" + cell);
                for (int line = 0; line < 19; line++) {
                    cells[line] += x.piecesOn(line);
                }
            }
            for (int line = 0; line < 19; line++) {
                is("the number of cells on the line " + line, 4, cells[line]);
            }
        });
    }

    private static void lines() {
        says("With the rule LINES (as at first) there are 10 lines: the rows (0 to 3), the columns (4 to 7), the "
            + "diagonal from the cell 0 to the cell 15 (8), and that from the cell 3 to the cell 12 (9).", () -> {
            is("rule()", HazelGift.LINES, new HazelGift().rule());
            is("lines()", 10, new HazelGift().lines());
            cellsOfLines(HazelGift.LINES, 10);
            refuses("piecesOn(10)", INDEX, () -> busy("g1;p1"), x -> x.piecesOn(10));
            refuses("sharedOn(10)", INDEX, () -> busy("g1;p1"), x -> x.sharedOn(10));
        });
        says("With the rule SQUARES there are 9 more: the squares of two by two cells, told by their upper left cell "
            + "in row r and column c (0 to 2), with the number 10 + 3 * r + c.", () -> {
            is("lines()", 19, squares("").lines());
            cellsOfLines(HazelGift.SQUARES, 19);
            for (int r = 0; r < 3; r++) {
                for (int c = 0; c < 3; c++) {
                    int line = 10 + 3 * r + c;
                    is("piecesOn(" + line + ")", 1, squares("g1;p" + (4 * r + c)).piecesOn(line));
                    is("piecesOn(" + line + ")", 1, squares("g1;p" + (4 * r + c + 5)).piecesOn(line));
                }
            }
            refuses("piecesOn(19)", INDEX, () -> busy(HazelGift.SQUARES, "g1;p1"), x -> x.piecesOn(19));
            refuses("sharedOn(19)", INDEX, () -> busy(HazelGift.SQUARES, "g1;p1"), x -> x.sharedOn(19));
        });
    }

    private static boolean isOn(int cell, int line) {
        for (int on : CELLS_ON[line]) {
            if (on == cell) {
                return true;
            }
        }
        return false;
    }

    private static void cellsOfLines(int rule, int lines) {
        for (int cell = 0; cell < 16; cell++) {
            HazelGift x = played(rule, "g5;p" + cell);
            for (int line = 0; line < lines; line++) {
                String where = "(" + line + ") with the piece 5 on the cell " + cell;
                is("piecesOn" + where, isOn(cell, line) ? 1 : 0, x.piecesOn(line));
                is("sharedOn" + where, isOn(cell, line) ? 5 + 16 * 10 : 255, x.sharedOn(line));
            }
        }
    }

    /** Four pieces with the trait 3 on a line, the last of them on the cell of that number. */
    private static String fill(int line, int last) {
        int[] pieces = {15, 14, 12, 8};
        int next = 0;
        StringBuilder moves = new StringBuilder();
        for (int i = 0; i < 4; i++) {
            if (i != last) {
                moves.append('g').append(pieces[next]).append(";p").append(CELLS_ON[line][i]).append(';');
                next++;
            }
        }
        return moves.append('g').append(pieces[3]).append(";p").append(CELLS_ON[line][last]).toString();
    }

    private static void playing() {
        says("Player 0 begins by giving a piece that is neither given nor on the board; player 1 places it on an "
            + "empty cell; then player 1 gives a piece, and player 0 places it; and so on.", () -> {
            HazelGift x = new HazelGift();
            int[] players = {0, 1, 1, 0};
            String[] moves = DRAWN.split(";");
            for (int i = 0; i < moves.length; i++) {
                is("playerToMove() before the move " + i, players[i % 4], x.playerToMove());
                play(x, moves[i]);
            }
            refuses("give(4), given", STATE, () -> busy("g3;p3;g4"), y -> y.give(4));
            refuses("give(3), on the board", STATE, () -> busy("g3;p3"), y -> y.give(3));
            refuses("place(3), not empty", STATE, () -> busy("g3;p3;g4"), y -> y.place(3));
            is("playerToMove() after restart()", 0, busy("").playerToMove());
        });
        says("A line is won if its 4 cells have pieces which share a trait.", () -> {
            for (int line = 0; line < 19; line++) {
                for (int last = 0; last < 4; last++) {
                    String moves = fill(line, last);
                    is("wonLines() with three on the line " + line, 0, squares(cut(cut(moves))).wonLines());
                    is("winner() with three on the line " + line, -1, squares(cut(cut(moves))).winner());
                    is("wonLines() with four on the line " + line, 1, squares(moves).wonLines());
                    is("winner() with four on the line " + line, 0, squares(moves).winner());
                    is("winner() with LINES", line < 10 ? 0 : -1, played(moves).winner());
                    is("wonLines() with LINES", line < 10 ? 1 : 0, played(moves).wonLines());
                }
            }
            is("wonLines() of four that share nothing", 0, played("g0;p0;g15;p1;g1;p2;g14;p3").wonLines());
        });
        says("A player who places a piece so that any line is won has won, and the game is over; it is over, too, "
            + "when all cells have pieces.", () -> {
            over(ROW, true, 0);
            over(cut(ROW), false, -1);
            over(LATER_ROW, true, 1);
            over(TWO_LINES, true, 0);
            over(WON_LAST, true, 0);
            over(cut(WON_LAST), false, -1);
            over(DRAWN, true, -1);
            over(cut(DRAWN), false, -1);
            over(cut(cut(DRAWN)), false, -1);
            over(mirrored(DRAWN), true, -1);
            over(mirrored(WON_LAST), true, 0);
            over("", false, -1);
        });
    }

    private static void over(String moves, boolean isOver, int winner) {
        HazelGift x = played(moves);
        is("isOver() after " + moves, isOver, x.isOver());
        is("winner() after " + moves, winner, x.winner());
    }

    private static void whatWouldBe() {
        says("A piece that could be given is safe if it cannot be placed so that a line is won.", () -> {
            for (String moves : new String[] {"", "g9;p6", cut(cut(ROW)), cut(cut(SQUARE)), cut(cut(LATER_ROW)),
                cut(cut(TWO_LINES)), cut(cut(WON_LAST)), LEFT_ZERO, mirrored(LEFT_ZERO), EVEN, TWELVE}) {
                safeAsPlayed(HazelGift.LINES, moves);
            }
            for (String moves : new String[] {"", "g9;p6", cut(cut(ROW)), cut(cut(SQUARE)),
                mirrored(cut(cut(SQUARE))), SQUARES_LEFT, cut(cut(SQUARES_LEFT)), cut(cut(cut(cut(SQUARES_LEFT))))}) {
                safeAsPlayed(HazelGift.SQUARES, moves);
            }
            is("safeByTrying() of the empty board", 65535, new HazelGift().safeByTrying());
            is("safeByLines() of the empty board", 65535, new HazelGift().safeByLines());
            is("safeByTrying() with no safe piece", 0, played(TWELVE).safeByTrying());
            is("safeByLines() with no safe piece", 0, played(TWELVE).safeByLines());
        });
        says("The outcome is told by playing on with best moves of both players: it is 1 if the player whose move it "
            + "is (to give, or to place) wins, -1 if the other one wins, and 0 if nobody does.", () -> {
            is("outcome(), to place the last piece and win", 1, played(cut(WON_LAST)).outcome());
            is("outcome(), to give the last piece and lose", -1, played(cut(cut(WON_LAST))).outcome());
            is("outcome(), to place the last piece in a draw", 0, played(cut(DRAWN)).outcome());
            is("outcome(), to give the last piece in a draw", 0, played(cut(cut(DRAWN))).outcome());
            is("outcome(), to give and lose", -1, played(TWELVE).outcome());
            is("outcome(), to place and win", 1, played(TWELVE + ";g9").outcome());
            is("outcome(), to give in a draw", 0, played(EVEN).outcome());
            is("outcome(), to give and win", 1, played("g8;p9;g9;p5;g13;p14;g12;p10;g10;p7;g5;p8;g15;p13;g3;p11;"
                + "g1;p3;g7;p4;g6;p1;g4;p6;g2;p12;g11;p2").outcome());
            is("outcome(), to place and lose", -1, played("g15;p3;g8;p1;g1;p11;g14;p10;g2;p12;g4;p0;g13;p9;g12;p6;"
                + "g10;p2;g5;p14;g3;p5;g11;p7;g6;p15;g9;p13;g7").outcome());
        });
    }

    private static void safeAsPlayed(int rule, String moves) {
        int safe = safe(rule, moves);
        is("safeByTrying() after " + moves, safe, played(rule, moves).safeByTrying());
        is("safeByLines() after " + moves, safe, played(rule, moves).safeByLines());
    }

    /** The pieces that are safe, told by games that are played on: each piece given, and placed on each cell. */
    private static int safe(int rule, String moves) {
        int safe = 0;
        for (int piece = 0; piece < 16; piece++) {
            boolean wins = played(rule, moves).cellOf(piece) >= 0;
            for (int cell = 0; cell < 16 && !wins; cell++) {
                HazelGift x = played(rule, moves);
                x.give(piece);
                wins = x.pieceOn(cell) < 0 && x.place(cell);
            }
            safe |= wins ? 0 : 1 << piece;
        }
        return safe;
    }

    private static void error(String text, int want) {
        is("textError() of \"" + text + "\"", want, typed(text).textError());
    }

    private static void moveTexts() {
        says("The move text has at most 60 characters and is empty at first.", () -> {
            is("clearText() of a new object", 0, new HazelGift().clearText());
            is("textError() of a new object", 0, new HazelGift().textError());
            is("type() of the 60th character", 60, typed(FULL_TEXT.substring(0, 59)).type('0'));
            refuses("type() of a 61st character", STATE, () -> typed(FULL_TEXT), x -> x.type('0'));
        });
        says("A valid text consists of one or more moves with \";\" between two of them: \"g\" and a piece (0 to 15) "
            + "is a gift, \"p\" and a cell (0 to 15) places the piece that was given.", () -> {
            for (int number = 0; number < 16; number++) {
                error("g" + number, -1);
                error("p" + number, -1);
                error("p" + number + ";g" + number + ";g" + number, -1);
                is("gift()", number, carriedOut("g" + number).gift());
                is("pieceOn()", 3, carriedOut("g3;p" + number).pieceOn(number));
            }
            for (int number = 16; number < 100; number++) {
                error("g" + number, 2);
                error("p" + number, 2);
            }
            error("", 0);
            error(";", 0);
            error(";g1", 0);
            error("g1;", 3);
            error("g1;;p1", 3);
            error("g1p1", 2);
            error("g11p1", 3);
            error("g1,p1", 2);
            error("G1", 0);
            error("P1", 0);
            error("g", 1);
            error("gp1", 1);
            error("g;", 1);
            error(FULL_TEXT, -1);
        });
        says("Numbers have no leading zeros.", () -> {
            error("g0", -1);
            error("p0;g0", -1);
            error("g10", -1);
            for (int digit = 0; digit < 10; digit++) {
                error("g0" + digit, 2);
                error("p0" + digit, 2);
                error("g0;p0" + digit, 5);
            }
            error("g015", 2);
            error("p00", 2);
        });
        says("The first error of a text is the index of the first character that no valid text (of any length) can "
            + "have at that place after the characters before it; if there is none, but the text ends too early (an "
            + "empty text does), it is the length of the text.", () -> {
            error("", 0);
            error("x", 0);
            error("gx", 1);
            error("g1x", 2);
            error("g2x", 2);
            error("g15x", 3);
            error("g150", 3);
            error("g15;x", 4);
            error("g15;px", 5);
            error("g16;x", 2);
            error("x;g16", 0);
            error("g", 1);
            error("g1;", 3);
            error("g15;", 4);
            error("g15;p", 5);
            error("g1;".repeat(20), 60);
            error("g1;".repeat(19) + "g1p", 59);
            error("g1;".repeat(18) + "g10;p1", -1);
            error("g1;".repeat(17) + "g1;p15;gg", 59);
            error("g1;".repeat(17) + "g10;p15;p", 60);
            error("x".repeat(60), 0);
            eachNextCharacter();
        });
    }

    private static void eachNextCharacter() {
        for (String[] next : NEXT) {
            int length = next[0].length();
            for (int character = 0; character <= Character.MAX_VALUE; character++) {
                HazelGift x = typed(next[0]);
                x.type((char) character);
                boolean isFirstError = x.textError() == length;
                is("whether " + character + " is an error behind \"" + next[0] + "\"",
                    next[1].indexOf(character) < 0, isFirstError);
            }
        }
    }

    private static HazelGift carriedOut(String text) {
        HazelGift x = typed(text);
        x.carryOut();
        return x;
    }

    private static void undo() {
        says("Each successful call of a method that is described as an action first records the current state; only "
            + "the latest 4 recorded states are kept.", () -> {
            isAction("give(0)", () -> busy("g5;p5"), x -> x.give(0));
            isAction("place(0)", () -> busy("g5;p5;g6"), x -> x.place(0));
            isAction("restart(0)", () -> busy("g5;p5;g6"), x -> x.restart(0));
            isAction("carryOut()", () -> busy("g5;p5"), x -> x.carryOut());
            isAction("restoreSnapshot()", () -> busy("g5;p5"), x -> x.restoreSnapshot());
            HazelGift x = new HazelGift();
            for (int actions = 0; actions < 8; actions++) {
                is("recordedStates() after so many actions: " + actions, Math.min(actions, 4), x.recordedStates());
                x.restart(actions % 2);
            }
            HazelGift five = played("g0;p0;g1;p1;g2");
            for (int left = 3; left >= 0; left--) {
                is("undo() after five actions", left, five.undo());
            }
            is("gift(), the first action stays", 0, five.gift());
            refused("undo() of the first of five actions", STATE, () -> five.undo());
            HazelGift four = played("g0;p0;g1;p1");
            for (int left = 3; left >= 0; left--) {
                is("undo() after four actions", left, four.undo());
            }
            is("gift() before the first action", -1, four.gift());
            HazelGift refusing = busy("g5;p5");
            refused("place(0)", STATE, () -> refusing.place(0));
            is("the gift before after a call that was no success", -1, refusing.gift());
            refusing.undo();
            is("gift() after undo()", 5, refusing.gift());
        });
        says("The state consists of everything except the move text, the recorded states and the snapshot.", () -> {
            HazelGift x = typed("g");
            String first = state(x);
            x.restart(HazelGift.SQUARES);
            x.restart(HazelGift.LINES);
            play(x, cut(ROW));
            String before = state(x);
            x.place(3);
            x.takeSnapshot();
            x.restart(HazelGift.SQUARES);
            write(x, "p");
            x.undo();
            x.undo();
            is("the state: board, gift, winner, rule and wins", before, state(x));
            is("recordedStates()", 2, x.recordedStates());
            is("textError(), the text stays", 1, x.textError());
            is("restoreSnapshot(), the snapshot stays", 4, x.restoreSnapshot());
            is("winsOf(0) of the snapshot", 1, x.winsOf(0));
            is("recordedStates(), which the snapshot does not hold", 3, x.recordedStates());
            is("type(), the text is the latest one", 2, x.type('1'));
            is("the state of a new object", first, state(new HazelGift()));
        });
    }

    private static void exceptions() {
        says("If several exceptions apply to a call, the one that is listed first is thrown.", () -> {
            for (int number : new int[] {-1, 16, Integer.MIN_VALUE, Integer.MAX_VALUE}) {
                refuses("give() of no piece with a gift", INDEX, () -> busy("g1"), x -> x.give(number));
                refuses("give() of no piece after a win", INDEX, () -> busy(ROW), x -> x.give(number));
                refuses("give() of no piece after a draw", INDEX, () -> busy(DRAWN), x -> x.give(number));
                refuses("place() on no cell without a gift", INDEX, () -> busy("g1;p1"), x -> x.place(number));
                refuses("place() on no cell of a new game", INDEX, () -> busy(""), x -> x.place(number));
                refuses("place() on no cell after a win", INDEX, () -> busy(ROW), x -> x.place(number));
                refuses("place() on no cell after a draw", INDEX, () -> busy(DRAWN), x -> x.place(number));
            }
        });
        says("A call that throws an exception changes nothing.", TermSentences::refusals);
        says("A method throws an IndexOutOfBoundsException if there is no such piece, cell, line (with the rule as it "
            + "is) or player.", () -> {
            Supplier<HazelGift> given = () -> busy("g1;p1;g2");
            outside("give", 16, () -> busy("g1;p1"), (x, n) -> x.give(n));
            outside("place", 16, given, (x, n) -> x.place(n));
            outside("pieceOn", 16, given, (x, n) -> x.pieceOn(n));
            outside("cellOf", 16, given, (x, n) -> x.cellOf(n));
            outside("winningCell", 16, given, (x, n) -> x.winningCell(n));
            outside("winsOf", 2, given, (x, n) -> x.winsOf(n));
            outside("piecesOn", 10, given, (x, n) -> x.piecesOn(n));
            outside("sharedOn", 10, given, (x, n) -> x.sharedOn(n));
            HazelGift x = squares("g1;p15");
            is("piecesOn(18)", 1, x.piecesOn(18));
            x.restart(HazelGift.LINES);
            refusedKeeping(x, "piecesOn(18) with LINES", INDEX, () -> x.piecesOn(18));
            refusedKeeping(x, "sharedOn(10) with LINES", INDEX, () -> x.sharedOn(10));
            x.undo();
            is("sharedOn(18) after undo()", 1 + 16 * 14, x.sharedOn(18));
            x.restart(HazelGift.LINES);
            x.takeSnapshot();
            x.restart(HazelGift.SQUARES);
            is("sharedOn(18)", 255, x.sharedOn(18));
            x.restoreSnapshot();
            refusedKeeping(x, "sharedOn(18) after restoreSnapshot()", INDEX, () -> x.sharedOn(18));
        });
    }

    /** A refused call of each method that can refuse one, for each reason that it can have. */
    private static void refusals() {
        refuses("give(16)", INDEX, () -> busy("g1;p1"), x -> x.give(16));
        refuses("give(1) on the board", STATE, () -> busy("g1;p1"), x -> x.give(1));
        refuses("give(2) with a gift", STATE, () -> busy("g1"), x -> x.give(2));
        refuses("give(8) after a win", STATE, () -> busy(ROW), x -> x.give(8));
        refuses("give(8) after a draw", STATE, () -> busy(DRAWN), x -> x.give(8));
        refuses("place(16)", INDEX, () -> busy("g1"), x -> x.place(16));
        refuses("place(2) without a gift", STATE, () -> busy("g1;p1"), x -> x.place(2));
        refuses("place(1) on a piece", STATE, () -> busy("g1;p1;g2"), x -> x.place(1));
        refuses("restart(2)", ARGUMENT, () -> busy("g1;p1;g2"), x -> x.restart(2));
        refuses("restart(-1)", ARGUMENT, () -> busy(ROW), x -> x.restart(-1));
        refuses("type('g')", STATE, () -> write(busy("g1;p1"), FULL_TEXT), x -> x.type('g'));
        refuses("impossibleMove()", STATE, () -> write(busy("g1;p1"), "g3;p3;"), x -> x.impossibleMove());
        refuses("carryOut() of no valid text", STATE, () -> write(busy("g1;p1"), "g3;p3;"), x -> x.carryOut());
        refuses("carryOut() with its last move", STATE, () -> write(busy("g1;p1"), "g3;p3;p4"), x -> x.carryOut());
        refuses("carryOut() after its win", STATE, () -> write(busy(cut(ROW)), "p3;g9"), x -> x.carryOut());
        refuses("undo()", STATE, () -> forgotten(busy("g1;p1")), x -> x.undo());
        refuses("restoreSnapshot()", STATE, () -> write(played("g1;p1"), "g3"), x -> x.restoreSnapshot());
        refuses("pieceOn(16)", INDEX, () -> busy("g1;p1"), x -> x.pieceOn(16));
        refuses("cellOf(-1)", INDEX, () -> busy("g1;p1"), x -> x.cellOf(-1));
        refuses("piecesOn(10)", INDEX, () -> busy("g1;p1"), x -> x.piecesOn(10));
        refuses("sharedOn(-1)", INDEX, () -> busy("g1;p1"), x -> x.sharedOn(-1));
        refuses("winsOf(2)", INDEX, () -> busy(ROW), x -> x.winsOf(2));
        refuses("winningCell(16)", INDEX, () -> busy(cut(ROW)), x -> x.winningCell(16));
        refuses("outcome() with five empty cells", STATE, () -> busy(cut(TWELVE)), x -> x.outcome());
        refuses("bestMove() with five empty cells", STATE, () -> busy(cut(TWELVE)), x -> x.bestMove());
        refuses("outcome() after a draw", STATE, () -> busy(DRAWN), x -> x.outcome());
        refuses("bestMove() after a win", STATE, () -> busy(WON_LAST), x -> x.bestMove());
    }

    private static void constants() {
        says("The constants: `NONE = -1`: There is no such result.", () -> {
            is("NONE", -1, HazelGift.NONE);
            is("gift()", HazelGift.NONE, new HazelGift().gift());
        });
        says("`LINES = 0`: Rule for lines.", () -> {
            is("LINES", 0, HazelGift.LINES);
            is("lines()", 10, played(HazelGift.LINES, "").lines());
        });
        says("`SQUARES = 1`: Rule for lines.", () -> {
            is("SQUARES", 1, HazelGift.SQUARES);
            is("lines()", 19, played(HazelGift.SQUARES, "").lines());
        });
    }

    private static void recordsNothing(String call, Supplier<HazelGift> make, Ask ask) {
        for (int recorded = 0; recorded < 2; recorded++) {
            HazelGift x = recorded == 0 ? forgotten(make.get()) : make.get();
            int before = x.recordedStates();
            String state = state(x);
            ask.of(x);
            is("recordedStates() after " + call, before, x.recordedStates());
            is("the state after " + call, state, state(x));
        }
    }

    private static void callsOfTheFace() {
        says("Ahead of the calls `give`, `place`, `restart` the interface says: ---- actions.", () -> {
            isAction("give(15)", () -> busy("g1;p1;g2;p2"), x -> x.give(15));
            isAction("place(15)", () -> busy("g1;p1;g2"), x -> x.place(15));
            isAction("place(3) with a win", () -> busy(cut(ROW)), x -> x.place(3));
            isAction("restart(1)", () -> busy(ROW), x -> x.restart(1));
        });
        says("Ahead of the calls `type`, `clearText`, `textError`, `impossibleMove`, `carryOut` the interface says: "
            + "---- move texts.", () -> {
            recordsNothing("type('1')", () -> busy("g1;p1"), x -> x.type('1'));
            recordsNothing("clearText()", () -> busy("g1;p1"), x -> x.clearText());
            recordsNothing("textError()", () -> busy("g1;p1"), x -> x.textError());
            recordsNothing("impossibleMove()", () -> busy("g1;p1"), x -> x.impossibleMove());
            changesNothing("textError()", () -> busy("g1;p1"), x -> x.textError());
            changesNothing("impossibleMove()", () -> busy("g1;p1"), x -> x.impossibleMove());
            isAction("carryOut()", () -> busy("g1;p1"), x -> x.carryOut());
        });
        says("Ahead of the calls `undo`, `takeSnapshot`, `restoreSnapshot` the interface says: ---- undo, "
            + "snapshot.", () -> {
            recordsNothing("takeSnapshot()", () -> busy("g1;p1"), x -> x.takeSnapshot());
            is("recordedStates() after undo()", 3, undone(busy("g1;p1")).recordedStates());
            isAction("restoreSnapshot()", () -> busy("g1;p1"), x -> x.restoreSnapshot());
        });
        says("Ahead of the calls `playerToMove`, `gift`, `pieceOn`, `cellOf`, `placed`, `winner`, `isOver`, `lines`, "
            + "`piecesOn`, `sharedOn`, `wonLines`, `winsOf` the interface says: ---- the game.", () -> {
            changesNothing("playerToMove()", () -> busy("g1;p1"), x -> x.playerToMove());
            changesNothing("gift()", () -> busy("g1;p1;g2"), x -> x.gift());
            changesNothing("pieceOn(1)", () -> busy("g1;p1;g2"), x -> x.pieceOn(1));
            changesNothing("cellOf(1)", () -> busy("g1;p1;g2"), x -> x.cellOf(1));
            changesNothing("placed()", () -> busy(DRAWN), x -> x.placed());
            changesNothing("winner()", () -> busy(ROW), x -> x.winner());
            changesNothing("isOver()", () -> busy(ROW), x -> x.isOver());
            changesNothing("lines()", () -> busy(ROW), x -> x.lines());
            changesNothing("piecesOn(0)", () -> busy(ROW), x -> x.piecesOn(0));
            changesNothing("sharedOn(0)", () -> busy(ROW), x -> x.sharedOn(0));
            changesNothing("wonLines()", () -> busy(ROW), x -> x.wonLines());
            changesNothing("winsOf(0)", () -> busy(ROW), x -> x.winsOf(0));
        });
        says("Ahead of the calls `winningCell`, `safeByTrying`, `safeByLines`, `outcome`, `bestMove`, `rule`, "
            + "`recordedStates` the interface says: ---- what would be; nothing changes.", () -> {
            for (String moves : new String[] {"", cut(cut(ROW)), cut(ROW), ROW, TWELVE, TWELVE + ";g9", DRAWN}) {
                changesNothing("winningCell(9)", () -> busy(moves), x -> x.winningCell(9));
                changesNothing("winningCell(7)", () -> busy(moves), x -> x.winningCell(7));
                changesNothing("safeByTrying()", () -> busy(moves), x -> x.safeByTrying());
                changesNothing("safeByLines()", () -> busy(moves), x -> x.safeByLines());
                changesNothing("outcome()", () -> busy(moves), x -> x.outcome());
                changesNothing("bestMove()", () -> busy(moves), x -> x.bestMove());
                changesNothing("rule()", () -> busy(moves), x -> x.rule());
                changesNothing("recordedStates()", () -> busy(moves), x -> x.recordedStates());
            }
        });
    }

    private static HazelGift undone(HazelGift x) {
        x.undo();
        return x;
    }
}
