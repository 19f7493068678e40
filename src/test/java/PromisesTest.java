/** The promises one by one: ordinary inputs, the edges that the document names, and wrong inputs. */
public final class PromisesTest extends Checks {
    private static void newObject() {
        HazelGift x = new HazelGift();
        due("placed()", 0, () -> x.placed());
        due("playerToMove()", 0, () -> x.playerToMove());
        due("gift()", -1, () -> x.gift());
        due("winner()", -1, () -> x.winner());
        due("isOver()", false, () -> x.isOver());
        due("rule()", 0, () -> x.rule());
        due("lines()", 10, () -> x.lines());
        due("winsOf(0)", 0, () -> x.winsOf(0));
        due("winsOf(1)", 0, () -> x.winsOf(1));
        due("recordedStates()", 0, () -> x.recordedStates());
        due("clearText()", 0, () -> x.clearText());
        refused("restoreSnapshot()", STATE, () -> x.restoreSnapshot());
        for (int i = 0; i < 16; i++) {
            int n = i;
            due("pieceOn(" + n + ")", -1, () -> x.pieceOn(n));
            due("cellOf(" + n + ")", -1, () -> x.cellOf(n));
        }
        due("NONE", -1, () -> HazelGift.NONE);
        due("LINES", 0, () -> HazelGift.LINES);
        due("SQUARES", 1, () -> HazelGift.SQUARES);
    }

    private static void give() {
        HazelGift x = new HazelGift();
        due("give(0)", 1, () -> x.give(0));
        due("gift()", 0, () -> x.gift());
        due("recordedStates()", 1, () -> x.recordedStates());
        refusedKeeping(x, "give(1) with a gift", STATE, () -> x.give(1));
        refusedKeeping(x, "give(0) again", STATE, () -> x.give(0));
        refusedKeeping(x, "give(16) with a gift", INDEX, () -> x.give(16));
        x.place(15);
        refusedKeeping(x, "give(0) on the board", STATE, () -> x.give(0));
        refusedKeeping(x, "give(-1)", INDEX, () -> x.give(-1));
        refusedKeeping(x, "give(MIN)", INDEX, () -> x.give(Integer.MIN_VALUE));
        refusedKeeping(x, "give(MAX)", INDEX, () -> x.give(Integer.MAX_VALUE));
        refusedKeeping(x, "give(32)", INDEX, () -> x.give(32));
        due("give(15)", 0, () -> x.give(15));
        HazelGift won = played(ROW);
        refusedKeeping(won, "give(8) after a win", STATE, () -> won.give(8));
        refusedKeeping(won, "give(16) after a win", INDEX, () -> won.give(16));
        HazelGift full = played(DRAWN);
        refusedKeeping(full, "give(3) on a full board", STATE, () -> full.give(3));
    }

    private static void place() {
        HazelGift x = new HazelGift();
        refusedKeeping(x, "place(0) without a gift", STATE, () -> x.place(0));
        refusedKeeping(x, "place(16) without a gift", INDEX, () -> x.place(16));
        x.give(9);
        refusedKeeping(x, "place(16)", INDEX, () -> x.place(16));
        refusedKeeping(x, "place(-1)", INDEX, () -> x.place(-1));
        refusedKeeping(x, "place(MIN)", INDEX, () -> x.place(Integer.MIN_VALUE));
        due("place(15)", false, () -> x.place(15));
        due("pieceOn(15)", 9, () -> x.pieceOn(15));
        due("gift()", -1, () -> x.gift());
        due("recordedStates()", 2, () -> x.recordedStates());
        x.give(3);
        refusedKeeping(x, "place(15) on a piece", STATE, () -> x.place(15));
        HazelGift row = played("g0;p0;g1;p1;g3;p2;g7");
        due("place(3) winning", true, () -> row.place(3));
        refusedKeeping(row, "place(4) after a win", STATE, () -> row.place(4));
        HazelGift other = played("g0;p0;g1;p1;g3;p2;g15");
        due("place(3) with no trait shared", false, () -> other.place(3));
        HazelGift present = played("g8;p3;g9;p6;g14;p9;g15");
        due("place(12) on the second diagonal", true, () -> present.place(12));
        HazelGift last = squares("g0;p0");
        play(last, "g15;p1;g3;p4;g12;p5");
        due("winner() of a square without a trait", -1, () -> last.winner());
        due("place(5) in a square that is no line", false, () -> played(SQUARE.replace(";p5", "")).place(5));
        due("place(5) in a square", true, () -> squares(SQUARE.replace(";p5", "")).place(5));
        HazelGift full = played(DRAWN.substring(0, DRAWN.lastIndexOf(';')));
        due("place(10), the last", false, () -> full.place(10));
        HazelGift end = played(WON_LAST.substring(0, WON_LAST.lastIndexOf(';')));
        due("place(10), the last and winning", true, () -> end.place(10));
    }

    private static void restart() {
        HazelGift x = played("g0;p0;g1;p1;g2");
        refusedKeeping(x, "restart(2)", ARGUMENT, () -> x.restart(2));
        refusedKeeping(x, "restart(-1)", ARGUMENT, () -> x.restart(-1));
        refusedKeeping(x, "restart(MAX)", ARGUMENT, () -> x.restart(Integer.MAX_VALUE));
        due("restart(1)", 2, () -> x.restart(1));
        due("rule()", 1, () -> x.rule());
        due("placed()", 0, () -> x.placed());
        due("gift()", -1, () -> x.gift());
        due("playerToMove()", 0, () -> x.playerToMove());
        due("sharedOn(0)", 255, () -> x.sharedOn(0));
        due("cellOf(1)", -1, () -> x.cellOf(1));
        due("recordedStates()", 4, () -> x.recordedStates());
        due("restart(1) again", 0, () -> x.restart(1));
        due("restart(0)", 0, () -> x.restart(0));
        due("rule()", 0, () -> x.rule());
        HazelGift won = played(LATER_ROW);
        due("restart(0) after a win", 5, () -> won.restart(0));
        due("winner()", -1, () -> won.winner());
        due("isOver()", false, () -> won.isOver());
        due("winsOf(1), kept", 1, () -> won.winsOf(1));
        due("playerToMove()", 0, () -> won.playerToMove());
        due("restart(1) after a draw", 16, () -> played(DRAWN).restart(1));
    }

    private static void type() {
        HazelGift x = new HazelGift();
        for (int i = 1; i <= 60; i++) {
            int length = i;
            char c = i % 3 == 0 ? (char) 0 : i % 3 == 1 ? '\uffff' : ';';
            due("type(" + (int) c + ")", length, () -> x.type(c));
        }
        refusedKeeping(x, "type('g') in a full text", STATE, () -> x.type('g'));
        due("clearText()", 60, () -> x.clearText());
        due("type('g')", 1, () -> x.type('g'));
        due("recordedStates()", 0, () -> x.recordedStates());
        HazelGift appended = typed("g1");
        due("type('5')", 3, () -> appended.type('5'));
        appended.carryOut();
        due("gift()", 15, () -> appended.gift());
    }

    private static void clearText() {
        HazelGift x = typed("g1;p3");
        due("clearText()", 5, () -> x.clearText());
        due("clearText() again", 0, () -> x.clearText());
        due("textError()", 0, () -> x.textError());
        due("recordedStates()", 0, () -> x.recordedStates());
        x.type('p');
        due("textError()", 1, () -> x.textError());
    }

    private static void error(String text, int want) {
        due("textError() of \"" + text + "\"", want, () -> typed(text).textError());
    }

    private static void textError() {
        error("", 0);
        for (int n = 0; n < 16; n++) {
            error("g" + n, -1);
            error("p" + n + ";g" + n, -1);
        }
        error("g", 1);
        error("p", 1);
        error("G1", 0);
        error("1", 0);
        error(";", 0);
        error(" g1", 0);
        error("gg", 1);
        error("g;", 1);
        error("g-1", 1);
        error("g/", 1);
        error("g:", 1);
        error("g16", 2);
        error("g1/", 2);
        error("g19", 2);
        error("g100", 3);
        error("g150", 3);
        error("g05", 2);
        error("g00", 2);
        error("g20", 2);
        error("g0 ", 2);
        error("p1x", 2);
        error("p1;", 3);
        error("p10;", 4);
        error("p1;;", 3);
        error("p1;x", 3);
        error("g1p2", 2);
        error("g1,p2", 2);
        error("g1;p2;g", 7);
        error("g\u0661", 1);
        error("\u0000", 0);
        error("g1;p2;g3;p16;x", 11);
        String nineteen = "g1;".repeat(19);
        error(nineteen + "g1", -1);
        error(nineteen + "g1;", 60);
        error(nineteen + "g15", -1);
        error(nineteen + "g16", 59);
        error("g10;".repeat(14) + "g10;", 60);
        error("g10;".repeat(14) + "g10g", 59);
        error("g1;".repeat(17) + "g10;p10;g", 60);
        HazelGift x = typed("g16");
        due("textError()", 2, () -> x.textError());
        due("textError() again", 2, () -> x.textError());
        due("clearText()", 3, () -> x.clearText());
    }

    private static void impossible(String before, String text, Object want) {
        HazelGift x = before.isEmpty() ? new HazelGift() : played(before);
        write(x, text);
        String state = picture(x);
        due("impossibleMove() of \"" + text + "\" after " + before, want, () -> x.impossibleMove());
        due("the state after it", state, () -> picture(x));
    }

    private static void impossibleMove() {
        impossible("", "", "throws." + STATE);
        impossible("", "g", "throws." + STATE);
        impossible("", "g1;", "throws." + STATE);
        impossible("", "g16", "throws." + STATE);
        impossible("", "g1", -1);
        impossible("", "p1", 0);
        impossible("", "g1;g2", 1);
        impossible("", "g1;p2;p3", 2);
        impossible("", "g1;p2;g1", 2);
        impossible("", "g1;p2;g15;p2", 3);
        impossible("", "g1;p2;g15;p15", -1);
        impossible("", "g1;p2;g1;x", "throws." + STATE);
        impossible("g5", "p5", -1);
        impossible("g5", "g5", 0);
        impossible("g5;p5", "p5", 0);
        impossible("g5;p5", "g5", 0);
        impossible("g0;p0;g1;p1;g3;p2", "g7;p3", -1);
        impossible("g0;p0;g1;p1;g3;p2", "g7;p3;g8", 2);
        impossible("g0;p0;g1;p1;g3;p2", "g15;p3;g8", -1);
        impossible(ROW, "g8", 0);
        impossible(DRAWN, "g8", 0);
        HazelGift x = squares("g15;p0;g14;p1;g12;p4");
        write(x, "g8;p5;g0");
        due("impossibleMove() with SQUARES", 2, () -> x.impossibleMove());
        x.restart(HazelGift.LINES);
        play(x, "g15;p0;g14;p1;g12;p4");
        due("impossibleMove() with LINES", -1, () -> x.impossibleMove());
    }

    private static void carryOut() {
        HazelGift x = typed("g1;p2;g4;p15");
        due("carryOut()", 4, () -> x.carryOut());
        due("pieceOn(2)", 1, () -> x.pieceOn(2));
        due("pieceOn(15)", 4, () -> x.pieceOn(15));
        due("playerToMove()", 0, () -> x.playerToMove());
        due("recordedStates()", 1, () -> x.recordedStates());
        due("textError(), the text stays", -1, () -> x.textError());
        refusedKeeping(x, "carryOut() again", STATE, () -> x.carryOut());
        due("clearText(), the text stays", 12, () -> x.clearText());
        refusedKeeping(x, "carryOut() of no text", STATE, () -> x.carryOut());
        write(x, "g0;p0;g");
        refusedKeeping(x, "carryOut() of a text that is not valid", STATE, () -> x.carryOut());
        write(x, "g0;p0;g0");
        refusedKeeping(x, "carryOut() of a move that cannot be made", STATE, () -> x.carryOut());
        due("undo()", 0, () -> x.undo());
        due("placed() after undo()", 0, () -> x.placed());
        write(x, "g3");
        due("carryOut() of one move", 1, () -> x.carryOut());
        due("gift()", 3, () -> x.gift());
        HazelGift won = typed(LATER_ROW);
        due("carryOut() with a win", 10, () -> won.carryOut());
        due("winner()", 1, () -> won.winner());
        due("winsOf(1)", 1, () -> won.winsOf(1));
        won.undo();
        due("winsOf(1) after undo()", 0, () -> won.winsOf(1));
        HazelGift longest = typed("g0;p0;g9;p1;g2;p2;g4;p8;g5;p9;g6;p4;g8;p5;g3;p7;g1");
        due("carryOut() of many moves", 17, () -> longest.carryOut());
        due("gift()", 1, () -> longest.gift());
    }

    private static void undo() {
        HazelGift x = new HazelGift();
        refusedKeeping(x, "undo() of nothing", STATE, () -> x.undo());
        x.give(0);
        String given = picture(x);
        x.place(0);
        due("undo()", 1, () -> x.undo());
        due("the state", given, () -> picture(x));
        due("undo()", 0, () -> x.undo());
        due("gift()", -1, () -> x.gift());
        refusedKeeping(x, "undo() of nothing", STATE, () -> x.undo());
        play(x, "g0;p0;g1;p1;g2;p2");
        due("undo() of six", 3, () -> x.undo());
        due("undo() of six", 2, () -> x.undo());
        due("undo() of six", 1, () -> x.undo());
        due("undo() of six", 0, () -> x.undo());
        due("placed()", 1, () -> x.placed());
        refused("undo() of a fifth", STATE, () -> x.undo());
        HazelGift won = played(ROW);
        won.undo();
        due("winsOf(0)", 0, () -> won.winsOf(0));
        due("winner()", -1, () -> won.winner());
        due("isOver()", false, () -> won.isOver());
        due("gift()", 7, () -> won.gift());
        due("place(3)", true, () -> won.place(3));
        won.restart(HazelGift.SQUARES);
        won.undo();
        due("rule()", 0, () -> won.rule());
        due("winner()", 0, () -> won.winner());
        due("winsOf(0)", 1, () -> won.winsOf(0));
        write(won, "g1");
        won.takeSnapshot();
        won.undo();
        due("clearText(), the text stays", 2, () -> won.clearText());
        due("restoreSnapshot(), the snapshot stays", 4, () -> won.restoreSnapshot());
        due("winner()", 0, () -> won.winner());
    }

    private static void takeSnapshot() {
        HazelGift x = new HazelGift();
        due("takeSnapshot()", 0, () -> x.takeSnapshot());
        due("recordedStates()", 0, () -> x.recordedStates());
        play(x, "g1;p1;g2");
        due("takeSnapshot()", 1, () -> x.takeSnapshot());
        play(x, "p2;g3;p3");
        due("restoreSnapshot() of the second", 1, () -> x.restoreSnapshot());
        due("gift()", 2, () -> x.gift());
        due("takeSnapshot() of a full board", 16, () -> played(DRAWN).takeSnapshot());
    }

    private static void restoreSnapshot() {
        HazelGift x = played("g5;p5");
        refusedKeeping(x, "restoreSnapshot() without any", STATE, () -> x.restoreSnapshot());
        x.takeSnapshot();
        play(x, "g6;p6");
        String later = picture(x);
        due("restoreSnapshot()", 1, () -> x.restoreSnapshot());
        due("pieceOn(6)", -1, () -> x.pieceOn(6));
        due("cellOf(6)", -1, () -> x.cellOf(6));
        due("recordedStates()", 4, () -> x.recordedStates());
        due("undo()", 3, () -> x.undo());
        due("the state", later.replaceAll("recorded.*", "recorded 3"), () -> picture(x));
        play(x, "g7");
        due("restoreSnapshot() again", 1, () -> x.restoreSnapshot());
        due("gift()", -1, () -> x.gift());
        HazelGift won = played(ROW);
        won.takeSnapshot();
        won.restart(HazelGift.SQUARES);
        play(won, LATER_ROW);
        due("restoreSnapshot() of a win", 4, () -> won.restoreSnapshot());
        due("winsOf(0)", 1, () -> won.winsOf(0));
        due("winsOf(1)", 0, () -> won.winsOf(1));
        due("rule()", 0, () -> won.rule());
        due("winner()", 0, () -> won.winner());
    }

    private static void playerToMove() {
        HazelGift x = new HazelGift();
        int[] players = {0, 1, 1, 0, 0, 1, 1, 0};
        String[] moves = {"g0", "p0", "g1", "p1", "g3", "p2", "g7", "p3"};
        for (int i = 0; i < 8; i++) {
            int player = players[i];
            due("playerToMove()", player, () -> x.playerToMove());
            play(x, moves[i]);
        }
        due("playerToMove() after a win", -1, () -> x.playerToMove());
        due("playerToMove() on a full board", -1, () -> played(DRAWN).playerToMove());
    }

    private static void gift() {
        HazelGift x = new HazelGift();
        due("gift()", -1, () -> x.gift());
        x.give(15);
        due("gift()", 15, () -> x.gift());
        x.place(3);
        due("gift()", -1, () -> x.gift());
        x.give(0);
        due("gift()", 0, () -> x.gift());
        due("gift() after a win", -1, () -> played(ROW).gift());
    }

    private static void pieceOn() {
        HazelGift x = played("g15;p0;g0;p15;g6;p7;g9");
        due("pieceOn(0)", 15, () -> x.pieceOn(0));
        due("pieceOn(15)", 0, () -> x.pieceOn(15));
        due("pieceOn(7)", 6, () -> x.pieceOn(7));
        due("pieceOn(9)", -1, () -> x.pieceOn(9));
        refusedKeeping(x, "pieceOn(16)", INDEX, () -> x.pieceOn(16));
        refusedKeeping(x, "pieceOn(-1)", INDEX, () -> x.pieceOn(-1));
        refusedKeeping(x, "pieceOn(MIN)", INDEX, () -> x.pieceOn(Integer.MIN_VALUE));
        refusedKeeping(x, "pieceOn(39)", INDEX, () -> x.pieceOn(39));
    }

    private static void cellOf() {
        HazelGift x = played("g15;p0;g0;p15;g6;p7;g9");
        due("cellOf(15)", 0, () -> x.cellOf(15));
        due("cellOf(0)", 15, () -> x.cellOf(0));
        due("cellOf(6)", 7, () -> x.cellOf(6));
        due("cellOf(9), given only", -1, () -> x.cellOf(9));
        due("cellOf(1)", -1, () -> x.cellOf(1));
        refusedKeeping(x, "cellOf(16)", INDEX, () -> x.cellOf(16));
        refusedKeeping(x, "cellOf(-1)", INDEX, () -> x.cellOf(-1));
        refusedKeeping(x, "cellOf(MAX)", INDEX, () -> x.cellOf(Integer.MAX_VALUE));
    }

    private static void placed() {
        due("placed()", 0, () -> played("g3").placed());
        due("placed()", 1, () -> played("g3;p3").placed());
        due("placed()", 12, () -> played(TWELVE).placed());
        due("placed()", 16, () -> played(DRAWN).placed());
    }

    private static void winner() {
        due("winner()", 0, () -> played(ROW).winner());
        due("winner()", 1, () -> played(LATER_ROW).winner());
        due("winner()", 0, () -> played(WON_LAST).winner());
        due("winner()", -1, () -> played(TWELVE).winner());
        due("winner() of a draw", -1, () -> played(DRAWN).winner());
        due("winner() of a square", 0, () -> squares(SQUARE).winner());
        due("winner() of a square that is no line", -1, () -> played(SQUARE).winner());
    }

    private static void isOver() {
        due("isOver()", false, () -> new HazelGift().isOver());
        due("isOver()", false, () -> played(TWELVE).isOver());
        due("isOver() after a win", true, () -> played(ROW).isOver());
        due("isOver() of a draw", true, () -> played(DRAWN).isOver());
        due("isOver() of a win with the last piece", true, () -> played(WON_LAST).isOver());
        due("isOver() before the last cell", false,
            () -> played(DRAWN.substring(0, DRAWN.lastIndexOf(';'))).isOver());
    }

    private static void lines() {
        HazelGift x = new HazelGift();
        due("lines()", 10, () -> x.lines());
        x.restart(HazelGift.SQUARES);
        due("lines()", 19, () -> x.lines());
        x.restart(HazelGift.LINES);
        due("lines()", 10, () -> x.lines());
    }

    /** On which lines a single piece on each cell is counted tells the cells of every line. */
    private static void piecesOn() {
        for (int cell = 0; cell < 16; cell++) {
            HazelGift x = squares("g9;p" + cell);
            int r = cell / 4;
            int c = cell % 4;
            for (int i = 0; i < 19; i++) {
                int line = i;
                int up = (i - 10) / 3;
                int left = (i - 10) % 3;
                boolean on = i < 4 ? i == r : i < 8 ? i - 4 == c : i == 8 ? r == c : i == 9 ? r + c == 3
                    : (r == up || r == up + 1) && (c == left || c == left + 1);
                due("piecesOn(" + line + ") with a piece on " + cell, on ? 1 : 0, () -> x.piecesOn(line));
            }
            refused("piecesOn(19)", INDEX, () -> x.piecesOn(19));
        }
        HazelGift row = played(ROW);
        due("piecesOn(0)", 4, () -> row.piecesOn(0));
        due("piecesOn(7)", 1, () -> row.piecesOn(7));
        due("piecesOn(1)", 0, () -> row.piecesOn(1));
        refusedKeeping(row, "piecesOn(10) with LINES", INDEX, () -> row.piecesOn(10));
        refusedKeeping(row, "piecesOn(-1)", INDEX, () -> row.piecesOn(-1));
        refusedKeeping(row, "piecesOn(MIN)", INDEX, () -> row.piecesOn(Integer.MIN_VALUE));
    }

    private static void sharedOn() {
        due("sharedOn(3) of no piece", 255, () -> new HazelGift().sharedOn(3));
        for (int p = 0; p < 16; p++) {
            int piece = p;
            due("sharedOn(8) of " + p, p + 16 * (15 - p), () -> played("g" + piece + ";p5").sharedOn(8));
        }
        HazelGift x = played("g5;p1;g7;p5;g4;p9");
        due("sharedOn(5)", 132, () -> x.sharedOn(5));
        due("sharedOn(1)", 135, () -> x.sharedOn(1));
        due("sharedOn(4)", 255, () -> x.sharedOn(4));
        play(x, "g10;p13");
        due("sharedOn(5) with no trait shared", 0, () -> x.sharedOn(5));
        refusedKeeping(x, "sharedOn(10) with LINES", INDEX, () -> x.sharedOn(10));
        refusedKeeping(x, "sharedOn(-1)", INDEX, () -> x.sharedOn(-1));
        HazelGift square = squares(SQUARE);
        due("sharedOn(10)", 8, () -> square.sharedOn(10));
        due("sharedOn(18)", 255, () -> square.sharedOn(18));
        refusedKeeping(square, "sharedOn(19)", INDEX, () -> square.sharedOn(19));
        refusedKeeping(square, "sharedOn(MAX)", INDEX, () -> square.sharedOn(Integer.MAX_VALUE));
    }

    private static void wonLines() {
        due("wonLines()", 0, () -> new HazelGift().wonLines());
        due("wonLines()", 0, () -> played(TWELVE).wonLines());
        due("wonLines()", 1, () -> played(ROW).wonLines());
        due("wonLines()", 2, () -> played(TWO_LINES).wonLines());
        due("wonLines() of a draw", 0, () -> played(DRAWN).wonLines());
        due("wonLines() of a square", 1, () -> squares(SQUARE).wonLines());
        due("wonLines() of a square that is no line", 0, () -> played(SQUARE).wonLines());
    }

    private static void winsOf() {
        HazelGift x = played(ROW);
        due("winsOf(0)", 1, () -> x.winsOf(0));
        due("winsOf(1)", 0, () -> x.winsOf(1));
        x.restart(HazelGift.SQUARES);
        play(x, LATER_ROW);
        due("winsOf(0)", 1, () -> x.winsOf(0));
        due("winsOf(1)", 1, () -> x.winsOf(1));
        x.restart(HazelGift.LINES);
        play(x, TWO_LINES);
        due("winsOf(0), two lines are one game", 2, () -> x.winsOf(0));
        x.restart(HazelGift.LINES);
        play(x, DRAWN);
        due("winsOf(0) after a draw", 2, () -> x.winsOf(0));
        due("winsOf(1) after a draw", 1, () -> x.winsOf(1));
        refusedKeeping(x, "winsOf(2)", INDEX, () -> x.winsOf(2));
        refusedKeeping(x, "winsOf(-1)", INDEX, () -> x.winsOf(-1));
        refusedKeeping(x, "winsOf(MIN)", INDEX, () -> x.winsOf(Integer.MIN_VALUE));
    }

    private static void winningCell() {
        HazelGift x = played("g0;p0;g1;p1;g3;p2");
        due("winningCell(7)", 3, () -> x.winningCell(7));
        due("winningCell(15)", -1, () -> x.winningCell(15));
        due("winningCell(0), on the board", -1, () -> x.winningCell(0));
        x.give(7);
        due("winningCell(7), given", 3, () -> x.winningCell(7));
        due("winningCell(4), not given", 3, () -> x.winningCell(4));
        due("gift(), nothing changes", 7, () -> x.gift());
        due("placed(), nothing changes", 3, () -> x.placed());
        refusedKeeping(x, "winningCell(16)", INDEX, () -> x.winningCell(16));
        refusedKeeping(x, "winningCell(-1)", INDEX, () -> x.winningCell(-1));
        HazelGift two = played("g0;p0;g1;p1;g2;p4;g12;p5;g14;p8;g13;p9");
        due("winningCell(8), the first of two", 12, () -> two.winningCell(8));
        due("winningCell(9)", 13, () -> two.winningCell(9));
        due("winningCell(15)", -1, () -> two.winningCell(15));
        due("winningCell(7) on the cell 0", 0, () -> played("g0;p1;g1;p2;g3;p3").winningCell(7));
        due("winningCell(15) on the cell 15", 15, () -> played("g7;p12;g13;p13;g5;p14").winningCell(15));
        HazelGift over = played(ROW);
        due("winningCell(8) after a win", -1, () -> over.winningCell(8));
        due("winningCell(4), given, on a square", 5, () -> squares("g15;p0;g14;p1;g12;p4").winningCell(4));
        due("winningCell(4) on a square that is no line", -1, () -> played("g15;p0;g14;p1;g12;p4").winningCell(4));
        due("winningCell(3) on a full board", -1, () -> played(DRAWN).winningCell(3));
    }

    private static void safe(String call, Ask safe) {
        due(call, 65535, () -> safe.of(new HazelGift()));
        due(call + " with a gift", 65533, () -> safe.of(played("g1")));
        due(call + " with a piece on the board", 65533, () -> safe.of(played("g1;p1")));
        due(call, 61440, () -> safe.of(played("g0;p0;g1;p1;g3;p2")));
        due(call + " with a gift", 57344, () -> safe.of(played("g0;p0;g1;p1;g3;p2;g12")));
        due(call + " with an unsafe gift", 61440, () -> safe.of(played("g0;p0;g1;p1;g3;p2;g7")));
        due(call + " of a square", 15, () -> safe.of(squares("g15;p0;g14;p1;g12;p4")));
        due(call + " of a square that is no line", 4095 + 8192,
            () -> safe.of(played("g15;p0;g14;p1;g12;p4")));
        due(call + " of three without a trait", 65535 - 1 - 32768 - 8,
            () -> safe.of(played("g0;p0;g15;p1;g3;p2")));
        due(call + " with none", 0, () -> safe.of(played(TWELVE)));
        due(call + " after a win", 0, () -> safe.of(played(ROW)));
        due(call + " on a full board", 0, () -> safe.of(played(DRAWN)));
        HazelGift x = played(EVEN);
        String before = picture(x);
        safe.of(x);
        due("the state after " + call, before, () -> picture(x));
    }

    private static void asked(String call, Object want, HazelGift x, Ask ask) {
        String before = picture(x);
        due(call, want, () -> ask.of(x));
        due("the state after " + call, before, () -> picture(x));
    }

    /** The moves, then the outcome and the best move with LINES, and in some rows both with SQUARES. */
    private static final Object[][] ENDS = {
        {TWELVE, -1, 6},
        {TWELVE + ";g9", 1, 12},
        {EVEN, 0, 2},
        {EVEN + ";g2", 0, 13},
        {"g12;p4;g9;p13;g3;p6;g10;p10;g1;p2;g13;p5;g6;p14;g5;p11;g7;p15;g11;p0;g14;p8;g4;p7;g0", 1, 3},
        {"g9;p1;g12;p3;g4;p7;g1;p4;g11;p12;g0;p13;g10;p11;g15;p14;g7;p9;g3;p5;g13;p8;g5;p10;g8", 1, 15},
        {"g3;p1;g11;p10;g5;p2;g13;p11;g10;p3;g7;p12;g0;p13;g14;p0;g4;p15;g15;p7;g9;p6;g8;p14", 0, 1},
        {DRAWN.substring(0, DRAWN.lastIndexOf(';')), 0, 10},
        {DRAWN.substring(0, DRAWN.lastIndexOf(";g")), 0, 12},
        {LEFT_ZERO, 0, 0},
        {LEFT_ZERO + ";g0", 0, 0},
        {WON_LAST.substring(0, WON_LAST.lastIndexOf(';')), 1, 10},
        {WON_LAST.substring(0, WON_LAST.lastIndexOf(";g")), -1, 9},
        {"g6;p0;g10;p15;g4;p14;g12;p2;g15;p10;g0;p4;g9;p5;g3;p1;g8;p12;g11;p8;g5;p11;g14;p9;g1", 0, 6, 0, 13},
        {"g12;p14;g15;p12;g5;p4;g0;p15;g13;p10;g2;p0;g14;p2;g3;p7;g4;p1;g8;p8;g7;p13;g10;p5", 1, 1, -1, 1},
        {"g15;p2;g0;p10;g6;p9;g1;p3;g10;p6;g9;p5;g5;p13;g12;p0;g11;p7;g4;p1;g13;p11;g14;p15", 0, 7, -1, 2},
        {"g10;p0;g14;p2;g2;p13;g11;p6;g5;p3;g13;p12;g0;p5;g8;p10;g15;p1;g1;p11;g3;p8;g4;p4;g9", 1, 9, 1, 7},
        {"g10;p4;g7;p3;g14;p1;g8;p14;g13;p7;g4;p0;g9;p9;g3;p5;g11;p11;g1;p12;g0;p2;g6;p15", 0, 12, 1, 12},
    };

    // No end to search: more than four cells are empty, or the game is over.
    private static final String[] NO_ENDS = {
        "g0", TWELVE.substring(0, TWELVE.lastIndexOf(';')), ROW, TWELVE + ";g9;p12", WON_LAST, DRAWN,
    };

    private static void searched(String call, int column, Ask ask) {
        for (Object[] end : ENDS) {
            String moves = (String) end[0];
            due(call + " at once after " + moves, end[column], () -> ask.of(played(moves)));
            asked(call + " after " + moves, end[column], played(moves), ask);
            if (end.length > 3) {
                asked(call + " with SQUARES after " + moves, end[column + 2], squares(moves), ask);
            }
        }
        refusedKeeping(new HazelGift(), call + " of a new game", STATE, () -> ask.of(new HazelGift()));
        for (String moves : NO_ENDS) {
            HazelGift x = played(moves);
            refusedKeeping(x, call + " after " + moves, STATE, () -> ask.of(x));
        }
    }

    private static void rule() {
        HazelGift x = new HazelGift();
        due("rule()", 0, () -> x.rule());
        x.restart(HazelGift.SQUARES);
        due("rule()", 1, () -> x.rule());
        x.restart(HazelGift.LINES);
        due("rule()", 0, () -> x.rule());
        x.undo();
        due("rule() after undo()", 1, () -> x.rule());
    }

    private static void recordedStates() {
        HazelGift x = new HazelGift();
        for (int i = 0; i < 6; i++) {
            int size = Math.min(i, 4);
            due("recordedStates()", size, () -> x.recordedStates());
            x.restart(i % 2);
        }
        x.takeSnapshot();
        write(x, "g1");
        x.impossibleMove();
        x.winningCell(1);
        x.undo();
        due("recordedStates() after undo()", 3, () -> x.recordedStates());
        x.carryOut();
        due("recordedStates() after carryOut()", 4, () -> x.recordedStates());
    }

    public static void main(String[] args) {
        Runnable[] promises = {
            PromisesTest::newObject, PromisesTest::give, PromisesTest::place, PromisesTest::restart,
            PromisesTest::type, PromisesTest::clearText, PromisesTest::textError, PromisesTest::impossibleMove,
            PromisesTest::carryOut, PromisesTest::undo, PromisesTest::takeSnapshot, PromisesTest::restoreSnapshot,
            PromisesTest::playerToMove, PromisesTest::gift, PromisesTest::pieceOn, PromisesTest::cellOf,
            PromisesTest::placed, PromisesTest::winner, PromisesTest::isOver, PromisesTest::lines,
            PromisesTest::piecesOn, PromisesTest::sharedOn, PromisesTest::wonLines, PromisesTest::winsOf,
            PromisesTest::winningCell, () -> safe("safeByTrying()", HazelGift::safeByTrying),
            () -> safe("safeByLines()", HazelGift::safeByLines), () -> searched("outcome()", 1, HazelGift::outcome),
            () -> searched("bestMove()", 2, HazelGift::bestMove), PromisesTest::rule, PromisesTest::recordedStates,
        };
        for (int i = 0; i < promises.length; i++) {
            looked = "promise " + (i + 1);
            try {
                promises[i].run();
            } catch (RuntimeException e) {
                wrong++;
                System.out.println(looked + ": the test itself was stopped by " + e);
            }
        }
        end();
    }
}
