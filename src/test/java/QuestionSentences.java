/** The sentences of the promises 13 to 31: what can be asked. */
abstract class QuestionSentences extends Sentences {
    static void all() {
        playerToMove();
        gift();
        pieceOn();
        cellOf();
        placed();
        winner();
        isOver();
        lines();
        piecesOn();
        sharedOn();
        wonLines();
        winsOf();
        winningCell();
        safeByTrying();
        safeByLines();
        outcome();
        bestMove();
        rule();
        recordedStates();
    }

    private static void playerToMove() {
        in("Promise 13: playerToMove");
        says("Returns the player whose move it is, to give or to place; NONE if the game is over.", () -> {
            is("playerToMove() of a new game, to give", 0, new HazelGift().playerToMove());
            is("playerToMove(), to place", 1, played("g0").playerToMove());
            is("playerToMove(), to give", 1, played("g0;p0").playerToMove());
            is("playerToMove(), to place", 0, played("g0;p0;g1").playerToMove());
            is("playerToMove(), to give again", 0, played("g0;p0;g1;p1").playerToMove());
            is("playerToMove(), to give the last piece", 1, played(cut(cut(DRAWN))).playerToMove());
            is("playerToMove(), to place the last piece", 0, played(cut(DRAWN)).playerToMove());
            is("playerToMove() after a win", -1, played(ROW).playerToMove());
            is("playerToMove() after a win of player 1", -1, played(LATER_ROW).playerToMove());
            is("playerToMove() after a draw", -1, played(DRAWN).playerToMove());
            is("playerToMove() after a win with the last piece", -1, played(WON_LAST).playerToMove());
        });
    }

    private static void gift() {
        in("Promise 14: gift");
        says("Returns the piece that has to be placed; NONE if there is none.", () -> {
            is("gift() of a new game", -1, new HazelGift().gift());
            for (int piece = 0; piece < 16; piece++) {
                is("gift()", piece, played("g" + piece).gift());
                is("gift() that is placed", -1, played("g" + piece + ";p5").gift());
            }
            is("gift(), the last", 12, played(cut(DRAWN)).gift());
            is("gift() after a draw", -1, played(DRAWN).gift());
            is("gift() after a win", -1, played(ROW).gift());
            HazelGift x = played("g5");
            x.restart(HazelGift.LINES);
            is("gift() after restart()", -1, x.gift());
        });
    }

    private static void pieceOn() {
        in("Promise 15: pieceOn");
        says("Returns the piece on a cell.", () -> {
            int[] pieces = {15, 3, 5, 8, 6, 0, 13, 4, 7, 2, 12, 9, 1, 14, 10, 11};
            for (int cell = 0; cell < 16; cell++) {
                is("pieceOn(" + cell + ")", pieces[cell], played(DRAWN).pieceOn(cell));
            }
        });
        says("- `cell`: 0 to 15", () -> {
            for (int cell = 0; cell < 16; cell++) {
                is("pieceOn(" + cell + ")", 9, played("g9;p" + cell).pieceOn(cell));
                is("pieceOn() of the other end", -1, played("g9;p" + cell).pieceOn(15 - cell));
            }
            refuses("pieceOn(-1)", INDEX, () -> busy("g9;p0"), x -> x.pieceOn(-1));
            refuses("pieceOn(16)", INDEX, () -> busy("g9;p15"), x -> x.pieceOn(16));
        });
        says("Returns the piece; NONE if the cell is empty.", () -> {
            is("pieceOn(0) of an empty board", -1, new HazelGift().pieceOn(0));
            is("pieceOn(15) of an empty board", -1, new HazelGift().pieceOn(15));
            is("pieceOn(0) with a gift only", -1, played("g0").pieceOn(0));
            is("pieceOn(0) with the piece 0", 0, played("g0;p0").pieceOn(0));
            is("pieceOn(15) with the piece 15", 15, played("g15;p15").pieceOn(15));
            is("pieceOn(0), the only empty cell", -1, played(LEFT_ZERO).pieceOn(0));
            HazelGift x = played(DRAWN);
            x.restart(HazelGift.LINES);
            is("pieceOn(0) after restart()", -1, x.pieceOn(0));
        });
        says("Throws `IndexOutOfBoundsException` if there is no such cell", () -> {
            outside("pieceOn", 16, () -> busy("g9;p0"), (x, cell) -> x.pieceOn(cell));
            outside("pieceOn of a full board", 16, () -> busy(DRAWN), (x, cell) -> x.pieceOn(cell));
        });
    }

    private static void cellOf() {
        in("Promise 16: cellOf");
        says("Returns the cell of a piece.", () -> {
            int[] cells = {5, 12, 9, 1, 7, 2, 4, 8, 3, 11, 14, 15, 10, 6, 13, 0};
            for (int piece = 0; piece < 16; piece++) {
                is("cellOf(" + piece + ")", cells[piece], played(DRAWN).cellOf(piece));
            }
        });
        says("- `piece`: 0 to 15", () -> {
            for (int piece = 0; piece < 16; piece++) {
                is("cellOf(" + piece + ")", 15, played("g" + piece + ";p15").cellOf(piece));
                is("cellOf() of the other end", -1, played("g" + piece + ";p15").cellOf(15 - piece));
            }
            refuses("cellOf(-1)", INDEX, () -> busy("g9;p0"), x -> x.cellOf(-1));
            refuses("cellOf(16)", INDEX, () -> busy("g9;p0"), x -> x.cellOf(16));
        });
        says("Returns the cell; NONE if the piece is not on the board.", () -> {
            is("cellOf(0) of an empty board", -1, new HazelGift().cellOf(0));
            is("cellOf(15) of an empty board", -1, new HazelGift().cellOf(15));
            is("cellOf(0), given only", -1, played("g0").cellOf(0));
            is("cellOf(15), given only", -1, played("g0;p0;g15").cellOf(15));
            is("cellOf(0) on the cell 0", 0, played("g0;p0").cellOf(0));
            is("cellOf(15) on the cell 15", 15, played("g15;p15").cellOf(15));
            is("cellOf(0), the only piece left", -1, played(LEFT_ZERO).cellOf(0));
            HazelGift x = played(DRAWN);
            x.restart(HazelGift.LINES);
            is("cellOf(15) after restart()", -1, x.cellOf(15));
        });
        says("Throws `IndexOutOfBoundsException` if there is no such piece", () -> {
            outside("cellOf", 16, () -> busy("g9;p0"), (x, piece) -> x.cellOf(piece));
            outside("cellOf of a full board", 16, () -> busy(DRAWN), (x, piece) -> x.cellOf(piece));
        });
    }

    private static void placed() {
        in("Promise 17: placed");
        says("Returns the number of pieces on the board.", () -> {
            HazelGift x = new HazelGift();
            int moves = 0;
            is("placed() of an empty board", 0, x.placed());
            for (String move : DRAWN.split(";")) {
                play(x, move);
                moves++;
                is("placed() after so many moves: " + moves, moves / 2, x.placed());
            }
            x.restart(HazelGift.LINES);
            is("placed() after restart()", 0, x.placed());
            is("placed() after a win", 4, played(ROW).placed());
        });
    }

    private static void winner() {
        in("Promise 18: winner");
        says("Returns the player who has won; NONE if nobody has.", () -> {
            is("winner() of an empty board", -1, new HazelGift().winner());
            is("winner() before the last move", -1, played(cut(ROW)).winner());
            is("winner(), player 0", 0, played(ROW).winner());
            is("winner(), player 1", 1, played(LATER_ROW).winner());
            is("winner() of two lines", 0, played(TWO_LINES).winner());
            is("winner() with the last piece", 0, played(WON_LAST).winner());
            is("winner() of a full board", -1, played(DRAWN).winner());
            is("winner() of a square with LINES", -1, played(SQUARE).winner());
            is("winner() of a square with SQUARES", 0, squares(SQUARE).winner());
            HazelGift x = played(ROW);
            x.restart(HazelGift.LINES);
            is("winner() after restart()", -1, x.winner());
        });
    }

    private static void isOver() {
        in("Promise 19: isOver");
        says("Returns whether the game is over.", () -> {
            is("isOver() of an empty board", false, new HazelGift().isOver());
            is("isOver() before a win", false, played(cut(ROW)).isOver());
            is("isOver() after a win", true, played(ROW).isOver());
            is("isOver() with one empty cell", false, played(cut(cut(DRAWN))).isOver());
            is("isOver() with one empty cell and a gift", false, played(cut(DRAWN)).isOver());
            is("isOver() of a full board", true, played(DRAWN).isOver());
            is("isOver() after a win with the last piece", true, played(WON_LAST).isOver());
            HazelGift x = played(DRAWN);
            x.restart(HazelGift.SQUARES);
            is("isOver() after restart()", false, x.isOver());
            x.undo();
            is("isOver() after undo()", true, x.isOver());
        });
    }

    private static void lines() {
        in("Promise 20: lines");
        says("Returns the number of lines.", () -> {
            HazelGift x = new HazelGift();
            is("lines() of a new object", 10, x.lines());
            x.restart(HazelGift.SQUARES);
            is("lines() with SQUARES", 19, x.lines());
            x.restart(HazelGift.LINES);
            is("lines() with LINES", 10, x.lines());
            x.undo();
            is("lines() after undo()", 19, x.lines());
            is("lines() of a full board", 10, played(DRAWN).lines());
        });
    }

    private static void piecesOn() {
        in("Promise 21: piecesOn");
        says("Returns the number of pieces on a line.", () -> {
            HazelGift x = squares("g0;p0;g15;p1;g9;p4");
            int[] pieces = {2, 1, 0, 0, 2, 1, 0, 0, 1, 0, 3, 1, 0, 1, 0, 0, 0, 0, 0};
            for (int line = 0; line < 19; line++) {
                is("piecesOn(" + line + ")", pieces[line], x.piecesOn(line));
            }
        });
        says("- `line`: a line", () -> {
            due("piecesOn(0)", 1, () -> played("g5;p0").piecesOn(0));
            due("piecesOn(9)", 1, () -> played("g5;p12").piecesOn(9));
            due("piecesOn(10)", 1, () -> squares("g5;p0").piecesOn(10));
            due("piecesOn(18)", 1, () -> squares("g5;p15").piecesOn(18));
            refuses("piecesOn(-1)", INDEX, () -> busy("g5;p0"), x -> x.piecesOn(-1));
            refuses("piecesOn(10) with LINES", INDEX, () -> busy("g5;p0"), x -> x.piecesOn(10));
            refuses("piecesOn(19) with SQUARES", INDEX, () -> busy(1, "g5;p15"), x -> x.piecesOn(19));
        });
        says("Returns 0 to 4.", () -> {
            HazelGift x = new HazelGift();
            is("piecesOn(0) of an empty board", 0, x.piecesOn(0));
            String[] moves = ROW.split(";");
            for (int i = 0; i < moves.length; i++) {
                play(x, moves[i]);
                is("piecesOn(0) after the move " + i, (i + 1) / 2, x.piecesOn(0));
            }
            for (int line = 0; line < 10; line++) {
                is("piecesOn(" + line + ") of an empty board", 0, new HazelGift().piecesOn(line));
                is("piecesOn(" + line + ") of a full board", 4, played(DRAWN).piecesOn(line));
            }
        });
        says("Throws `IndexOutOfBoundsException` if there is no such line", () -> {
            outside("piecesOn with LINES", 10, () -> busy("g5;p15"), (x, line) -> x.piecesOn(line));
            outside("piecesOn with SQUARES", 19, () -> busy(1, "g5;p15"), (x, line) -> x.piecesOn(line));
        });
    }

    private static void sharedOn() {
        in("Promise 22: sharedOn");
        says("Returns the traits that the pieces on a line share.", () -> {
            is("sharedOn(0) of one", 9 + 16 * 6, played("g9;p0").sharedOn(0));
            is("sharedOn(0) of two", 8 + 16 * 4, played("g9;p0;g10;p3").sharedOn(0));
            is("sharedOn(0) of three", 8, played("g9;p0;g10;p3;g12;p1").sharedOn(0));
            is("sharedOn(0) of four", 8, played("g9;p0;g10;p3;g12;p1;g8;p2").sharedOn(0));
            is("sharedOn(0) of four that share none", 0, played("g9;p0;g10;p3;g12;p1;g0;p2").sharedOn(0));
            is("sharedOn(0) with a piece that is given only", 9 + 16 * 6, played("g9;p0;g10").sharedOn(0));
            is("sharedOn(0) with a piece elsewhere", 9 + 16 * 6, played("g9;p0;g6;p4").sharedOn(0));
        });
        says("- `line`: a line", () -> {
            due("sharedOn(0)", 165, () -> played("g5;p3").sharedOn(0));
            due("sharedOn(9)", 165, () -> played("g5;p3").sharedOn(9));
            due("sharedOn(10)", 165, () -> squares("g5;p5").sharedOn(10));
            due("sharedOn(18)", 165, () -> squares("g5;p10").sharedOn(18));
            refuses("sharedOn(-1)", INDEX, () -> busy("g5;p0"), x -> x.sharedOn(-1));
            refuses("sharedOn(10) with LINES", INDEX, () -> busy("g5;p0"), x -> x.sharedOn(10));
            refuses("sharedOn(19) with SQUARES", INDEX, () -> busy(1, "g5;p15"), x -> x.sharedOn(19));
        });
        says("Returns the traits, as a number: the bit t is set if the trait t is present in all of them, the bit "
            + "4 + t if it is absent from all of them; 255 if there is no piece.", () -> {
            for (int trait = 0; trait < 4; trait++) {
                int one = 1 << trait;
                is("present in both", one, played("g" + one + ";p0;g15;p1").sharedOn(0) & one);
                is("absent from both", one << 4, played("g" + (15 - one) + ";p0;g0;p1").sharedOn(0) & one << 4);
                is("sharedOn(0), only one present", one, played("g" + one + ";p0;g15;p1").sharedOn(0));
                is("sharedOn(0), only one absent", one << 4, played("g" + (15 - one) + ";p0;g0;p1").sharedOn(0));
            }
            is("sharedOn(0) of the piece 0", 240, played("g0;p0").sharedOn(0));
            is("sharedOn(0) of the piece 15", 15, played("g15;p0").sharedOn(0));
            for (int line = 0; line < 19; line++) {
                is("sharedOn(" + line + ") of no piece", 255, squares("").sharedOn(line));
            }
            is("sharedOn(1) without a piece after a win", 255, played(ROW).sharedOn(1));
            is("sharedOn(0) with a gift only", 255, played("g5").sharedOn(0));
        });
        says("Throws `IndexOutOfBoundsException` if there is no such line", () -> {
            outside("sharedOn with LINES", 10, () -> busy("g5;p15"), (x, line) -> x.sharedOn(line));
            outside("sharedOn with SQUARES", 19, () -> busy(1, "g5;p15"), (x, line) -> x.sharedOn(line));
        });
    }

    private static void wonLines() {
        in("Promise 23: wonLines");
        says("Returns the number of lines that are won.", () -> {
            is("wonLines() of an empty board", 0, new HazelGift().wonLines());
            is("wonLines() before a win", 0, played(cut(ROW)).wonLines());
            is("wonLines() of one", 1, played(ROW).wonLines());
            is("wonLines() of two", 2, played(TWO_LINES).wonLines());
            is("wonLines() of two with the last piece", 2, played(WON_LAST).wonLines());
            is("wonLines() of a full board", 0, played(DRAWN).wonLines());
            is("wonLines() of a square with LINES", 0, played(SQUARE).wonLines());
            is("wonLines() of a square with SQUARES", 1, squares(SQUARE).wonLines());
            String both = "g15;p0;g14;p1;g12;p4;g9;p6;g11;p7;g8;p5";
            is("wonLines() of a square and a row with SQUARES", 2, squares(both).wonLines());
            is("wonLines() of a square and a row with LINES", 1, played(both).wonLines());
            HazelGift x = played(TWO_LINES);
            x.restart(HazelGift.LINES);
            is("wonLines() after restart()", 0, x.wonLines());
        });
    }

    private static void winsOf() {
        in("Promise 24: winsOf");
        says("Returns how often a player has won so far, in this game and games before.", () -> {
            HazelGift x = new HazelGift();
            for (int game = 0; game < 6; game++) {
                is("winsOf(0)", (game + 1) / 2, x.winsOf(0));
                is("winsOf(1)", game / 2, x.winsOf(1));
                play(x, cut(game % 2 == 0 ? ROW : LATER_ROW));
                is("winsOf(0) before the last move", (game + 1) / 2, x.winsOf(0));
                is("winsOf(1) before the last move", game / 2, x.winsOf(1));
                x.place(3);
                is("winsOf(0) in this game", (game + 2) / 2, x.winsOf(0));
                is("winsOf(1) in this game", (game + 1) / 2, x.winsOf(1));
                x.restart(game % 2);
            }
            x.undo();
            x.undo();
            is("winsOf(1) after undo() of a win", 2, x.winsOf(1));
            x.place(3);
            is("winsOf(1) after the same win", 3, x.winsOf(1));
        });
        says("- `player`: 0 or 1", () -> {
            due("winsOf(0)", 0, () -> new HazelGift().winsOf(0));
            due("winsOf(1)", 0, () -> new HazelGift().winsOf(1));
            refuses("winsOf(-1)", INDEX, () -> busy(ROW), x -> x.winsOf(-1));
            refuses("winsOf(2)", INDEX, () -> busy(ROW), x -> x.winsOf(2));
        });
        says("Returns the number of games.", () -> {
            is("winsOf(0) of no game", 0, new HazelGift().winsOf(0));
            is("winsOf(0) of a game with two lines", 1, played(TWO_LINES).winsOf(0));
            is("winsOf(0) of a draw", 0, played(DRAWN).winsOf(0));
            is("winsOf(1) of a draw", 0, played(DRAWN).winsOf(1));
            is("winsOf(0) of a win with the last piece", 1, played(WON_LAST).winsOf(0));
            is("winsOf(1) of the same", 0, played(WON_LAST).winsOf(1));
            HazelGift x = new HazelGift();
            for (int game = 1; game <= 40; game++) {
                play(x, ROW);
                x.restart(HazelGift.LINES);
                is("winsOf(0)", game, x.winsOf(0));
            }
        });
        says("Throws `IndexOutOfBoundsException` if there is no such player", () ->
            outside("winsOf", 2, () -> busy(ROW), (x, player) -> x.winsOf(player)));
    }

    private static void winningCell() {
        in("Promise 25: winningCell");
        says("Finds the first cell on which a piece that is not on the board would win a line, whoever places it.",
            () -> {
                String two = "g0;p0;g1;p1;g2;p4;g12;p5;g14;p8;g13;p9";
                is("winningCell(8), the first of two", 12, played(two).winningCell(8));
                is("winningCell(9), the second", 13, played(two).winningCell(9));
                is("winningCell(7) on the cell 0", 0, played("g0;p1;g1;p2;g3;p3").winningCell(7));
                is("winningCell(15) on the cell 15", 15, played("g7;p12;g13;p13;g5;p14").winningCell(15));
                is("winningCell(0) on the cell 15", 15, played("g1;p12;g2;p13;g4;p14").winningCell(0));
                is("winningCell(7), given to player 0", 3, played(cut(ROW)).winningCell(7));
                is("winningCell(7), given to player 1", 3, played(cut(LATER_ROW)).winningCell(7));
                is("winningCell(4) while another piece is given", 3, played(cut(ROW)).winningCell(4));
                is("winningCell(7), not given", 3, played(cut(cut(ROW))).winningCell(7));
                is("winningCell(4) in a square with SQUARES", 5, squares(cut(cut(SQUARE))).winningCell(4));
                is("winningCell(4) in a square with LINES", -1, played(cut(cut(SQUARE))).winningCell(4));
                is("winningCell(9) on the last cell", 10, played(cut(cut(WON_LAST))).winningCell(9));
            });
        says("- `piece`: 0 to 15", () -> {
            int[] cells = {-1, -1, 3, -1, 3, 3, 3, 3, 3, 3, 3, 3, -1, -1, -1, -1};
            for (int piece = 0; piece < 16; piece++) {
                int asked = piece;
                due("winningCell(" + piece + ")", cells[piece], () -> played(cut(ROW)).winningCell(asked));
            }
            refuses("winningCell(-1)", INDEX, () -> busy(cut(ROW)), x -> x.winningCell(-1));
            refuses("winningCell(16)", INDEX, () -> busy(cut(ROW)), x -> x.winningCell(16));
        });
        says("Returns the cell; NONE if there is none, the piece is on the board, or the game is over.", () -> {
            for (int piece = 0; piece < 16; piece++) {
                is("winningCell() of an empty board", -1, new HazelGift().winningCell(piece));
                is("winningCell() after a win", -1, played(ROW).winningCell(piece));
                is("winningCell() after a draw", -1, played(DRAWN).winningCell(piece));
                is("winningCell() after a win with the last piece", -1, played(WON_LAST).winningCell(piece));
            }
            is("winningCell(15), which shares nothing", -1, played(cut(ROW)).winningCell(15));
            is("winningCell(1) on the board", -1, played(cut(ROW)).winningCell(1));
            is("winningCell(0) on the board", -1, played(cut(ROW)).winningCell(0));
            is("winningCell(0) on the last cell, which wins nothing", -1, played(LEFT_ZERO).winningCell(0));
            String open = "g15;p0;g14;p1;g12;p2;g3;p4;g1;p8;g7;p5;g8;p3";
            is("winningCell(0) after a win, with another line open", -1, played(open).winningCell(0));
        });
        says("Throws `IndexOutOfBoundsException` if there is no such piece", () -> {
            outside("winningCell", 16, () -> busy(cut(ROW)), (x, piece) -> x.winningCell(piece));
            outside("winningCell after a win", 16, () -> busy(ROW), (x, piece) -> x.winningCell(piece));
            outside("winningCell after a draw", 16, () -> busy(DRAWN), (x, piece) -> x.winningCell(piece));
        });
    }

    interface Safe {
        int of(HazelGift x);
    }

    /** What holds for the safe pieces, in whichever way they are told. */
    private static void safe(String call, Safe safe) {
        is(call + " of an empty board", 65535, safe.of(new HazelGift()));
        for (int piece = 0; piece < 16; piece++) {
            is(call + " without the piece that is given", 65535 - (1 << piece), safe.of(played("g" + piece)));
            is(call + " without the piece on the board", 65535 - (1 << piece), safe.of(played("g" + piece + ";p0")));
        }
        is(call + " of three that share two traits", 61440, safe.of(played(cut(cut(ROW)))));
        is(call + " with an unsafe piece given", 61440, safe.of(played(cut(ROW))));
        is(call + " with a safe piece given", 61440 - 4096, safe.of(played("g0;p0;g1;p1;g3;p2;g12")));
        is(call + " of two that share", 65535 - 1 - 2, safe.of(played("g0;p0;g1;p1")));
        is(call + " of three that share nothing", 65535 - 1 - 32768 - 8, safe.of(played("g0;p0;g15;p1;g3;p2")));
        is(call + " of a square with SQUARES", 15, safe.of(squares(cut(cut(SQUARE)))));
        is(call + " of a square with LINES", 4095 + 8192, safe.of(played(cut(cut(SQUARE)))));
        is(call + " with no safe piece", 0, safe.of(played(TWELVE)));
        is(call + " of the last piece, safe", 1, safe.of(played(LEFT_ZERO)));
        is(call + " of the last piece 15, safe", 32768, safe.of(played(mirrored(LEFT_ZERO))));
        is(call + " of the last piece, not safe", 0, safe.of(played(cut(cut(WON_LAST)))));
        is(call + " of the last piece, given", 0, safe.of(played(LEFT_ZERO + ";g0")));
        is(call + " after a win", 0, safe.of(played(ROW)));
        is(call + " after a win of player 1", 0, safe.of(played(LATER_ROW)));
        is(call + " after a draw", 0, safe.of(played(DRAWN)));
        is(call + " after a win with the last piece", 0, safe.of(played(WON_LAST)));
    }

    private static void safeByTrying() {
        in("Promise 26: safeByTrying");
        says("Returns the pieces that are safe, told by trying each of them on each empty cell: as a number in which "
            + "the bit p is set for the piece p, of the pieces that are neither given nor on the board; 0 if the game "
            + "is over.", () -> safe("safeByTrying()", HazelGift::safeByTrying));
    }

    private static void safeByLines() {
        in("Promise 27: safeByLines");
        says("Returns the same, told by lines with three pieces: those pieces are not safe that share a trait with "
            + "the pieces of such a line which these share.", () -> {
            safe("safeByLines()", HazelGift::safeByLines);
            for (String game : new String[] {DRAWN, WON_LAST, LATER_ROW, TWO_LINES, TWELVE, EVEN}) {
                HazelGift x = new HazelGift();
                for (String move : game.split(";")) {
                    is("safeByLines() before " + move + " of " + game, x.safeByTrying(), x.safeByLines());
                    play(x, move);
                }
                is("safeByLines() after " + game, x.safeByTrying(), x.safeByLines());
            }
        });
    }

    private static void noEnd(String call, Ask ask) {
        String eleven = cut(cut(TWELVE));
        refuses(call + " of an empty board", STATE, () -> busy(""), ask);
        refuses(call + " with five empty cells", STATE, () -> busy(eleven), ask);
        refuses(call + " with five empty cells and a gift", STATE, () -> busy(cut(TWELVE)), ask);
        refuses(call + " with six empty cells", STATE, () -> busy(cut(cut(eleven))), ask);
        refuses(call + " after a win", STATE, () -> busy(ROW), ask);
        refuses(call + " after a win with four empty cells", STATE, () -> busy(eleven + ";g9;p12"), ask);
        refuses(call + " after a win with three empty cells", STATE, () -> busy(TWELVE + ";g9;p12"), ask);
        refuses(call + " after a win with the last piece", STATE, () -> busy(WON_LAST), ask);
        refuses(call + " of a full board", STATE, () -> busy(DRAWN), ask);
        is("isOver() after the win with four empty cells", true, played(eleven + ";g9;p12").isOver());
        is("placed() after the win with four empty cells", 12, played(eleven + ";g9;p12").placed());
        is("placed() with four empty cells", 12, played(TWELVE).placed());
        due(call + " with four empty cells is told", false, () -> told(() -> ask.of(played(TWELVE))).startsWith("t"));
    }

    private static void outcome() {
        in("Promise 28: outcome");
        says("Returns the outcome.", () -> {
            for (Object[] end : Ends.ALL) {
                int rule = (int) end[0];
                String moves = (String) end[1];
                due("outcome() with the rule " + rule + " after " + moves, end[2],
                    () -> played(rule, moves).outcome());
                due("outcome() of the mirrored game", end[2], () -> played(rule, mirrored(moves)).outcome());
            }
        });
        says("Returns 1, 0 or -1.", () -> {
            is("outcome() of a win", 1, played(cut(WON_LAST)).outcome());
            is("outcome() of a draw", 0, played(cut(DRAWN)).outcome());
            is("outcome() of a loss", -1, played(cut(cut(WON_LAST))).outcome());
        });
        says("Throws `IllegalStateException` if the game is over, or more than 4 cells are empty", () ->
            noEnd("outcome()", x -> x.outcome()));
    }

    private static void bestMove() {
        in("Promise 29: bestMove");
        says("Finds the best move: a gift, or a cell if a piece has to be placed, by which the player whose move it is "
            + "gets the outcome; of several the least number.", () -> {
            for (Object[] end : Ends.ALL) {
                int rule = (int) end[0];
                String moves = (String) end[1];
                due("bestMove() with the rule " + rule + " after " + moves, end[3],
                    () -> played(rule, moves).bestMove());
                getsTheOutcome(rule, moves);
                getsTheOutcome(rule, mirrored(moves));
            }
        });
        says("Returns the piece, or the cell.", () -> {
            is("bestMove(), the piece 0 that is left", 0, played(LEFT_ZERO).bestMove());
            is("bestMove(), the cell 0 that is left", 0, played(LEFT_ZERO + ";g0").bestMove());
            is("bestMove(), the piece 15 that is left", 15, played(mirrored(LEFT_ZERO)).bestMove());
            is("bestMove(), the cell 15 that is left", 15, played(mirrored(LEFT_ZERO) + ";g15").bestMove());
            is("bestMove(), the piece 12", 12, played(cut(cut(DRAWN))).bestMove());
            is("bestMove(), the cell 10", 10, played(cut(DRAWN)).bestMove());
        });
        says("Throws `IllegalStateException` if the game is over, or more than 4 cells are empty", () ->
            noEnd("bestMove()", x -> x.bestMove()));
    }

    /** The best move is the first of those after which the outcome is the same for the player who made it. */
    private static void getsTheOutcome(int rule, String moves) {
        HazelGift x = played(rule, moves);
        int outcome = x.outcome();
        int first = -1;
        for (int number = 15; number >= 0; number--) {
            if (x.gift() < 0 ? x.cellOf(number) < 0 : x.pieceOn(number) < 0) {
                first = valueAfter(rule, moves, number) == outcome ? number : first;
            }
        }
        is("bestMove() with the rule " + rule + " after " + moves, first, x.bestMove());
    }

    /** What the player who makes this move has from it then. */
    private static int valueAfter(int rule, String moves, int number) {
        HazelGift x = played(rule, moves);
        int player = x.playerToMove();
        if (x.gift() < 0) {
            x.give(number);
        } else if (x.place(number)) {
            return 1;
        }
        if (x.isOver()) {
            return 0;
        }
        return x.playerToMove() == player ? x.outcome() : -x.outcome();
    }

    private static void rule() {
        in("Promise 30: rule");
        says("Returns the rule.", () -> {
            HazelGift x = new HazelGift();
            is("rule() of a new object", HazelGift.LINES, x.rule());
            x.restart(HazelGift.SQUARES);
            is("rule()", HazelGift.SQUARES, x.rule());
            refused("restart(2)", ARGUMENT, () -> x.restart(2));
            is("rule() after a restart that was refused", HazelGift.SQUARES, x.rule());
            x.restart(HazelGift.LINES);
            is("rule()", HazelGift.LINES, x.rule());
            x.undo();
            is("rule() after undo()", HazelGift.SQUARES, x.rule());
        });
    }

    private static void recordedStates() {
        in("Promise 31: recordedStates");
        says("Returns the number of recorded states.", () -> {
            HazelGift x = new HazelGift();
            is("recordedStates() of a new object", 0, x.recordedStates());
            String[] moves = ROW.split(";");
            for (int i = 0; i < moves.length; i++) {
                play(x, moves[i]);
                is("recordedStates() after so many actions: " + (i + 1), Math.min(i + 1, 4), x.recordedStates());
            }
            for (int left = 3; left >= 0; left--) {
                x.undo();
                is("recordedStates() after undo()", left, x.recordedStates());
            }
            refused("undo()", STATE, () -> x.undo());
            is("recordedStates() after an undo() that was refused", 0, x.recordedStates());
            x.give(15);
            is("recordedStates() after the next action", 1, x.recordedStates());
        });
    }
}
