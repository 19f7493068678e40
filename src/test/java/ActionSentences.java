import java.util.function.Supplier;

/** The sentences of the promises 1 to 12: what can be done. */
abstract class ActionSentences extends Sentences {
    static void all() {
        newObject();
        give();
        place();
        restart();
        type();
        clearText();
        textError();
        impossibleMove();
        carryOut();
        undo();
        takeSnapshot();
        restoreSnapshot();
    }

    private static void newObject() {
        in("Promise 1: A new object");
        says("Creates a game with an empty board.", () -> {
            HazelGift x = new HazelGift();
            is("placed()", 0, x.placed());
            for (int i = 0; i < 16; i++) {
                is("pieceOn(" + i + ")", -1, x.pieceOn(i));
                is("cellOf(" + i + ")", -1, x.cellOf(i));
                is("winningCell(" + i + ")", -1, x.winningCell(i));
            }
            for (int line = 0; line < 10; line++) {
                is("piecesOn(" + line + ")", 0, x.piecesOn(line));
                is("sharedOn(" + line + ")", 255, x.sharedOn(line));
            }
            is("playerToMove()", 0, x.playerToMove());
            is("gift()", -1, x.gift());
            is("winner()", -1, x.winner());
            is("isOver()", false, x.isOver());
            is("wonLines()", 0, x.wonLines());
            is("winsOf(0)", 0, x.winsOf(0));
            is("winsOf(1)", 0, x.winsOf(1));
            is("recordedStates()", 0, x.recordedStates());
            refused("outcome()", STATE, () -> x.outcome());
            refused("bestMove()", STATE, () -> x.bestMove());
            refused("undo()", STATE, () -> x.undo());
            refused("restoreSnapshot()", STATE, () -> x.restoreSnapshot());
            is("clearText()", 0, x.clearText());
        });
    }

    private static void give() {
        in("Promise 2: give");
        says("Gives a piece.", () -> {
            HazelGift x = played("g1;p1");
            x.give(0);
            is("gift()", 0, x.gift());
            is("cellOf(0), not on the board yet", -1, x.cellOf(0));
            is("placed()", 1, x.placed());
        });
        says("This is an action.", () -> {
            isAction("give(2)", () -> busy(""), x -> x.give(2));
            isAction("give(2)", () -> busy(cut(cut(ROW))), x -> x.give(2));
        });
        says("- `piece`: 0 to 15", () -> {
            for (int piece = 0; piece < 16; piece++) {
                int given = piece;
                HazelGift x = new HazelGift();
                due("give(" + piece + ")", 1, () -> x.give(given));
                is("gift()", piece, x.gift());
            }
            refuses("give(-1)", INDEX, () -> busy(""), x -> x.give(-1));
            refuses("give(16)", INDEX, () -> busy(""), x -> x.give(16));
        });
        says("Returns the player who has to place it.", () -> {
            HazelGift x = new HazelGift();
            String[] moves = DRAWN.split(";");
            for (int i = 0; i < moves.length; i += 2) {
                is("give() of " + moves[i], 1 - i / 2 % 2, x.give(Integer.parseInt(moves[i].substring(1))));
                is("playerToMove()", 1 - i / 2 % 2, x.playerToMove());
                play(x, moves[i + 1]);
            }
            x.restart(HazelGift.LINES);
            is("give(3) in a new game", 1, x.give(3));
        });
        says("Throws `IndexOutOfBoundsException` if there is no such piece", () -> {
            outside("give", 16, () -> busy("g0;p0"), (x, piece) -> x.give(piece));
            outside("give with a gift", 16, () -> busy("g0"), (x, piece) -> x.give(piece));
        });
        says("Throws `IllegalStateException` if the game is over, a piece has to be placed, or the piece is on the "
            + "board", () -> {
            for (int piece = 0; piece < 16; piece++) {
                int given = piece;
                refuses("give(" + piece + ") after a win", STATE, () -> busy(ROW), x -> x.give(given));
                refuses("give(" + piece + ") after a draw", STATE, () -> busy(DRAWN), x -> x.give(given));
                refuses("give(" + piece + ") with a gift", STATE, () -> busy("g1;p1;g8"), x -> x.give(given));
            }
            refuses("give(0) on the board", STATE, () -> busy("g0;p0"), x -> x.give(0));
            refuses("give(15) on the board", STATE, () -> busy("g15;p15"), x -> x.give(15));
            refuses("give(15) on the cell 0", STATE, () -> busy("g15;p0"), x -> x.give(15));
            refuses("give() of the piece placed first", STATE, () -> busy(LEFT_ZERO), x -> x.give(9));
            refuses("give() of the piece placed last", STATE, () -> busy(LEFT_ZERO), x -> x.give(12));
            is("give() of the only piece left", 0, played(LEFT_ZERO).give(0));
            is("give(1) after a restart", 1, played(HazelGift.LINES, "").give(1));
        });
    }

    private static void place() {
        in("Promise 3: place");
        says("Places the piece that was given.", () -> {
            HazelGift x = played("g9;p15;g0");
            x.place(0);
            is("pieceOn(0)", 0, x.pieceOn(0));
            is("cellOf(0)", 0, x.cellOf(0));
            is("gift(), placed", -1, x.gift());
            is("placed()", 2, x.placed());
            is("pieceOn(15), as before", 9, x.pieceOn(15));
        });
        says("This is an action.", () -> {
            isAction("place(2)", () -> busy("g2"), x -> x.place(2));
            isAction("place(3), winning", () -> busy(cut(ROW)), x -> x.place(3));
            isAction("place(10), the last cell", () -> busy(cut(DRAWN)), x -> x.place(10));
        });
        says("- `cell`: 0 to 15", () -> {
            for (int cell = 0; cell < 16; cell++) {
                int on = cell;
                HazelGift x = played("g5");
                due("place(" + cell + ")", false, () -> x.place(on));
                is("pieceOn(" + cell + ")", 5, x.pieceOn(cell));
            }
            refuses("place(-1)", INDEX, () -> busy("g5"), x -> x.place(-1));
            refuses("place(16)", INDEX, () -> busy("g5"), x -> x.place(16));
        });
        says("Returns whether the player who places it wins by that.", () -> {
            is("place(0) of the first piece", false, played("g5").place(0));
            is("place(3) as the fourth that share a trait", true, played(cut(ROW)).place(3));
            is("place(4) beside the three", false, played(cut(ROW)).place(4));
            is("place(3) as the fourth that share none", false, played("g0;p0;g1;p1;g3;p2;g15").place(3));
            is("place(3) by player 1", true, played(cut(LATER_ROW)).place(3));
            is("place(3) on two lines", true, played(cut(TWO_LINES)).place(3));
            is("place(10) on the last cell, winning", true, played(cut(WON_LAST)).place(10));
            is("place(10) on the last cell, in a draw", false, played(cut(DRAWN)).place(10));
            is("place(5) in a square with LINES", false, played(cut(SQUARE)).place(5));
            is("place(5) in a square with SQUARES", true, squares(cut(SQUARE)).place(5));
        });
        says("Throws `IndexOutOfBoundsException` if there is no such cell", () -> {
            outside("place", 16, () -> busy("g0;p0;g1"), (x, cell) -> x.place(cell));
            outside("place without a gift", 16, () -> busy("g0;p0"), (x, cell) -> x.place(cell));
        });
        says("Throws `IllegalStateException` if no piece has to be placed, or the cell has a piece", () -> {
            for (int cell = 0; cell < 16; cell++) {
                int on = cell;
                refuses("place(" + cell + ") of a new game", STATE, () -> busy(""), x -> x.place(on));
                refuses("place(" + cell + ") after a win", STATE, () -> busy(ROW), x -> x.place(on));
                refuses("place(" + cell + ") after a draw", STATE, () -> busy(DRAWN), x -> x.place(on));
                refuses("place(" + cell + ") on a piece", STATE, () -> busy("g4;p" + on + ";g5"), x -> x.place(on));
            }
            refuses("place(2) after a place", STATE, () -> busy("g4;p1"), x -> x.place(2));
            is("place() on the only cell left", false, played(LEFT_ZERO + ";g0").place(0));
        });
    }

    private static void restart() {
        in("Promise 4: restart");
        says("Begins a new game, with whatever rule.", () -> {
            for (int from = HazelGift.LINES; from <= HazelGift.SQUARES; from++) {
                for (int to = HazelGift.LINES; to <= HazelGift.SQUARES; to++) {
                    for (String moves : new String[] {"", "g7", "g7;p8", ROW}) {
                        HazelGift x = played(from, moves);
                        String wins = x.winsOf(0) + " " + x.winsOf(1);
                        x.restart(to);
                        is("rule()", to, x.rule());
                        is("lines()", to == HazelGift.LINES ? 10 : 19, x.lines());
                        is("the board", state(played(to, "")).replace("0 0 board", wins + " board"), state(x));
                        is("winner()", -1, x.winner());
                        is("safeByLines()", 65535, x.safeByLines());
                    }
                }
            }
            HazelGift x = played(LATER_ROW);
            x.restart(HazelGift.LINES);
            is("winsOf(1), kept", 1, x.winsOf(1));
            play(x, DRAWN);
            x.restart(HazelGift.LINES);
            is("give() of a piece that was on the board", 1, x.give(5));
            is("place() on a cell that had a piece", false, x.place(2));
        });
        says("This is an action.", () -> {
            isAction("restart(0)", () -> busy("g1;p1"), x -> x.restart(0));
            isAction("restart(1)", () -> busy("g1"), x -> x.restart(1));
            isAction("restart(0) of a new game", () -> busy(""), x -> x.restart(0));
            isAction("restart(0) after a win", () -> busy(ROW), x -> x.restart(0));
        });
        says("- `rule`: LINES or SQUARES", () -> {
            due("restart(LINES)", 0, () -> new HazelGift().restart(HazelGift.LINES));
            due("restart(SQUARES)", 0, () -> new HazelGift().restart(HazelGift.SQUARES));
            refuses("restart(-1)", ARGUMENT, () -> busy("g1;p1"), x -> x.restart(-1));
            refuses("restart(2)", ARGUMENT, () -> busy("g1;p1"), x -> x.restart(2));
        });
        says("Returns the number of pieces that were on the board.", () -> {
            is("restart(0) of an empty board", 0, new HazelGift().restart(0));
            is("restart(0) with a gift only", 0, played("g1").restart(0));
            is("restart(0) with one piece", 1, played("g1;p1").restart(0));
            is("restart(1) with one piece and a gift", 1, played("g1;p1;g2").restart(1));
            is("restart(1) after a win", 4, played(ROW).restart(1));
            is("restart(1) of a full board", 16, played(DRAWN).restart(1));
        });
        says("Throws `IllegalArgumentException` if there is no such rule", () -> {
            for (int rule : new int[] {-1, 2, 3, 16, 256, 65536, Integer.MIN_VALUE, Integer.MAX_VALUE}) {
                refuses("restart(" + rule + ")", ARGUMENT, () -> busy("g1;p1;g2"), x -> x.restart(rule));
            }
            refuses("restart(2) after a win", ARGUMENT, () -> busy(ROW), x -> x.restart(2));
        });
    }

    private static void type() {
        in("Promise 5: type");
        says("Appends a character to the move text.", () -> {
            HazelGift x = typed("g1");
            x.type('2');
            x.carryOut();
            is("gift() of \"g12\"", 12, x.gift());
            HazelGift y = typed(FULL_TEXT.substring(0, 59));
            y.type('3');
            y.carryOut();
            is("cellOf(7) after the last character \"3\"", 13, y.cellOf(7));
        });
        says("- `character`: any character", () -> {
            for (int character = 0; character <= Character.MAX_VALUE; character++) {
                char c = (char) character;
                HazelGift x = new HazelGift();
                due("type(" + character + ")", 1, () -> x.type(c));
                is("textError() of it", c == 'g' || c == 'p' ? 1 : 0, x.textError());
            }
        });
        says("Returns the length of the text afterwards.", () -> {
            HazelGift x = new HazelGift();
            for (int length = 1; length <= 60; length++) {
                is("type('g')", length, x.type('g'));
            }
            x.clearText();
            is("type('g') after clearText()", 1, x.type('g'));
        });
        says("Throws `IllegalStateException` if the text has 60 characters", () -> {
            is("type('5') with 59 characters", 60, typed(FULL_TEXT.substring(0, 59)).type('5'));
            for (char c : new char[] {'0', ';', 'g', ' ', 0, Character.MAX_VALUE}) {
                refuses("type(" + (int) c + ") with 60", STATE, () -> typed(FULL_TEXT), x -> x.type(c));
                refuses("type(" + (int) c + ") with 60", STATE, () -> write(busy("g1"), FULL_TEXT), x -> x.type(c));
            }
        });
    }

    private static void clearText() {
        in("Promise 6: clearText");
        says("Empties the move text.", () -> {
            for (String text : new String[] {"", "x", "g1;p1", FULL_TEXT}) {
                HazelGift x = write(busy("g3"), text);
                String before = state(x);
                x.clearText();
                is("clearText(), asked again", 0, x.clearText());
                is("textError() of no text", 0, x.textError());
                refused("impossibleMove() of no text", STATE, () -> x.impossibleMove());
                is("the state", before, state(x));
                is("type('p')", 1, x.type('p'));
                is("textError() of \"p\"", 1, x.textError());
            }
        });
        says("Returns the length that it had.", () -> {
            is("clearText() of no text", 0, new HazelGift().clearText());
            for (int length = 0; length <= 60; length++) {
                is("clearText()", length, typed(FULL_TEXT.substring(0, length)).clearText());
                is("clearText()", length, typed(";".repeat(length)).clearText());
            }
        });
    }

    private static void textError() {
        in("Promise 7: textError");
        says("Finds the first error of the move text.", () -> {
            is("textError() of two errors", 1, typed("gx;p16").textError());
            is("textError() of two errors", 5, typed("g1;p16x").textError());
            is("textError() of one at the end", 5, typed("g1;p1x").textError());
            changesNothing("textError()", () -> write(busy("g1"), "g1;p16"), x -> x.textError());
            changesNothing("textError()", () -> write(busy("g1"), FULL_TEXT), x -> x.textError());
        });
        says("Returns its index; NONE if the text is valid.", () -> {
            is("textError() at the first character", 0, typed("x").textError());
            is("textError() at the last of 60", 59, typed(FULL_TEXT.substring(0, 59) + "x").textError());
            is("textError() behind the last of 60", 60, typed(FULL_TEXT.substring(0, 57) + "p1;").textError());
            is("textError() of the shortest valid text", -1, typed("g0").textError());
            is("textError() of a valid text of 60", -1, typed(FULL_TEXT).textError());
            is("textError() of moves that cannot be made", -1, typed("p0;p0;g3;g3").textError());
        });
    }

    private static void impossible(String before, String text, int want) {
        HazelGift x = write(played(before), text);
        due("impossibleMove() of \"" + text + "\" after \"" + before + "\"", want, () -> x.impossibleMove());
    }

    private static void impossibleMove() {
        in("Promise 8: impossibleMove");
        says("Finds the first move of the text that could not be made, if the moves were made now, one after the "
            + "other.", () -> {
            impossible("", "p0", 0);
            impossible("", "p0;p0", 0);
            impossible("g1", "g2", 0);
            impossible("g1", "p2", -1);
            impossible("g1;p2", "p2", 0);
            impossible("g1;p2", "g1", 0);
            impossible("g1;p2", "g3;p2", 1);
            impossible("", "g3;p3;g3", 2);
            impossible("", "g3;p3;g4;p3", 3);
            impossible("", "g3;g4", 1);
            impossible(cut(ROW), "p3;g8", 1);
            impossible(cut(ROW), "p4;g8", -1);
            impossible(ROW, "g8", 0);
            impossible(cut(DRAWN), "p10;g0", 1);
            impossible(cut(DRAWN), "p10", -1);
            impossible(DRAWN, "g0", 0);
            impossible(DRAWN, "p0", 0);
            is("impossibleMove() with SQUARES", 1, write(squares(cut(SQUARE)), "p5;g0").impossibleMove());
            is("impossibleMove() with LINES", -1, write(played(cut(SQUARE)), "p5;g0").impossibleMove());
            for (String moves : new String[] {"", cut(ROW), ROW, DRAWN}) {
                changesNothing("impossibleMove()", () -> write(busy(moves), "p3;g8"), x -> x.impossibleMove());
                changesNothing("impossibleMove()", () -> write(busy(moves), "g8;p15"), x -> x.impossibleMove());
            }
        });
        says("Returns the number of the move, from 0; NONE if all of them could be made.", () -> {
            impossible("", FULL_TEXT, -1);
            impossible("", FULL_TEXT.replace(";p10", ";p6"), 19);
            impossible("", FULL_TEXT.replace("g7;p10", "g1;p10"), 18);
            impossible("g9", FULL_TEXT, 0);
            impossible("", "g0", -1);
            impossible("", "p15", 0);
            impossible("", "g10;p10;p11", 2);
        });
        says("Throws `IllegalStateException` if the text is not valid", () -> {
            for (String text : new String[] {"", "g", "p1;", "g16", "x", "g1;p1;g01", "g1;".repeat(20)}) {
                refuses("impossibleMove() of \"" + text + "\"", STATE, () -> write(busy("g3"), text),
                    x -> x.impossibleMove());
            }
        });
    }

    private static void carryOut() {
        in("Promise 9: carryOut");
        says("Makes all moves of the text, one after the other.", () -> {
            for (String moves : new String[] {"g0", "g15;p15", FULL_TEXT, ROW, LATER_ROW}) {
                HazelGift x = typed(moves);
                x.carryOut();
                is("the state after " + moves, state(played(moves)), state(x));
                is("the answers after " + moves, answers(played(moves)), answers(x));
            }
            HazelGift x = write(played(cut(ROW)), "p3");
            x.carryOut();
            is("winner()", 0, x.winner());
            is("winsOf(0)", 1, x.winsOf(0));
            HazelGift y = write(played(cut(DRAWN)), "p10");
            y.carryOut();
            is("isOver()", true, y.isOver());
            is("winsOf(0) of a draw", 0, y.winsOf(0));
        });
        says("The text stays as it is.", () -> {
            HazelGift x = typed("g1;p2");
            x.carryOut();
            x.restart(HazelGift.LINES);
            is("carryOut() of the same text", 2, x.carryOut());
            is("pieceOn(2)", 1, x.pieceOn(2));
            is("type(';')", 6, x.type(';'));
            HazelGift full = typed(FULL_TEXT);
            full.carryOut();
            is("textError()", -1, full.textError());
            refused("type(';')", STATE, () -> full.type(';'));
            is("clearText()", 60, full.clearText());
        });
        says("This is one action.", () -> {
            isAction("carryOut() of two moves", () -> busy(""), x -> x.carryOut());
            isAction("carryOut() of twenty moves", () -> write(busy(""), FULL_TEXT), x -> x.carryOut());
            isAction("carryOut() of one move", () -> write(busy(cut(ROW)), "p3"), x -> x.carryOut());
        });
        says("Returns the number of moves.", () -> {
            is("carryOut() of one move", 1, typed("g15").carryOut());
            is("carryOut() of two moves", 2, typed("g10;p10").carryOut());
            is("carryOut() of twenty moves", 20, typed(FULL_TEXT).carryOut());
        });
        says("Throws `IllegalStateException` if the text is not valid, or a move cannot be made", () -> {
            for (String text : new String[] {"", "g", "g1;p1;", "g1;p16", "g3;p3;x", "p0", "g3;p3;g3", "g3;g4",
                "g3;p3;g4;p3", "g9", "g3;p9"}) {
                refuses("carryOut() of \"" + text + "\"", STATE, () -> write(busy("g9;p9"), text), x -> x.carryOut());
            }
            refuses("carryOut() with its twentieth move", STATE,
                () -> write(busy(""), FULL_TEXT.replace(";p10", ";p6")), x -> x.carryOut());
            refuses("carryOut() behind a win", STATE, () -> write(busy(cut(ROW)), "p3;g8"), x -> x.carryOut());
            refuses("carryOut() after a win", STATE, () -> write(busy(ROW), "g8"), x -> x.carryOut());
            refuses("carryOut() after a draw", STATE, () -> write(busy(DRAWN), "g8"), x -> x.carryOut());
            refuses("carryOut() behind a draw", STATE, () -> write(busy(cut(DRAWN)), "p10;g8"), x -> x.carryOut());
        });
    }

    private static void undo() {
        in("Promise 10: undo");
        says("Returns to the state that was recorded last, and discards it from the recorded states.", () -> {
            for (String moves : new String[] {"g1", "g1;p15", ROW, cut(LATER_ROW), WON_LAST, DRAWN}) {
                HazelGift x = played(moves);
                x.undo();
                is("the state after undo() after " + moves, state(played(cut(moves))), state(x));
                is("the answers after undo() after " + moves, answers(played(cut(moves))), answers(x));
            }
            HazelGift x = played("g1;p1;g2");
            x.undo();
            x.undo();
            is("the state after two undo()", state(played("g1")), state(x));
            play(x, "p5;g6");
            x.undo();
            is("the state after undo(), an action and undo()", state(played("g1;p5")), state(x));
            x.undo();
            x.undo();
            is("the state after all undo()", state(new HazelGift()), state(x));
            HazelGift won = played(ROW);
            won.restart(HazelGift.SQUARES);
            won.undo();
            is("the state after a restart that is undone", state(played(ROW)), state(won));
            HazelGift same = write(busy("g1;p1"), "g3;p3");
            same.undo();
            is("clearText(), the text stays", 5, same.clearText());
            is("restoreSnapshot(), the snapshot stays", 1, same.restoreSnapshot());
        });
        says("Returns the number of recorded states that are left.", () -> {
            is("undo() of one", 0, played("g1").undo());
            HazelGift x = played(ROW);
            for (int left = 3; left >= 0; left--) {
                is("undo()", left, x.undo());
                is("recordedStates()", left, x.recordedStates());
            }
        });
        says("Throws `IllegalStateException` if no state is recorded", () -> {
            refuses("undo() of a new object", STATE, () -> new HazelGift(), x -> x.undo());
            refuses("undo() of what is undone", STATE, () -> undone(played("g1"), 1), x -> x.undo());
            refuses("undo() of the fifth", STATE, () -> undone(played(ROW), 4), x -> x.undo());
            refuses("undo() with a snapshot and a text", STATE, () -> undone(busy(ROW), 4), x -> x.undo());
        });
    }

    private static HazelGift undone(HazelGift x, int times) {
        for (int i = 0; i < times; i++) {
            x.undo();
        }
        return x;
    }

    private static void takeSnapshot() {
        in("Promise 11: takeSnapshot");
        says("Takes a snapshot of the state, which replaces the previous snapshot.", () -> {
            HazelGift x = new HazelGift();
            x.takeSnapshot();
            play(x, "g1;p1;g2");
            x.takeSnapshot();
            String before = state(x);
            play(x, "p2");
            x.restoreSnapshot();
            is("the state of the second snapshot", before, state(x));
            x.restart(HazelGift.SQUARES);
            x.takeSnapshot();
            x.restart(HazelGift.LINES);
            x.restoreSnapshot();
            is("rule() of the third snapshot, of an empty board", HazelGift.SQUARES, x.rule());
            is("placed() of the third snapshot", 0, x.placed());
            HazelGift y = busy("g1;p1");
            String picture = picture(y) + answers(y);
            y.takeSnapshot();
            is("what is seen after takeSnapshot()", picture, picture(y) + answers(y));
            is("recordedStates(), this is no action", 0, taken(new HazelGift()).recordedStates());
        });
        says("Returns the number of pieces on the board.", () -> {
            is("takeSnapshot() of an empty board", 0, new HazelGift().takeSnapshot());
            is("takeSnapshot() with a gift only", 0, played("g0").takeSnapshot());
            is("takeSnapshot() of one piece", 1, played("g0;p0;g1").takeSnapshot());
            is("takeSnapshot() after a win", 4, played(ROW).takeSnapshot());
            is("takeSnapshot() of a full board", 16, played(DRAWN).takeSnapshot());
        });
    }

    private static HazelGift taken(HazelGift x) {
        x.takeSnapshot();
        return x;
    }

    private static void restoreSnapshot() {
        in("Promise 12: restoreSnapshot");
        says("Returns to the state of the snapshot, which is kept.", () -> {
            for (String moves : new String[] {"", "g0", "g0;p15", ROW, DRAWN}) {
                HazelGift x = taken(played(moves));
                for (int again = 0; again < 3; again++) {
                    x.restart(HazelGift.SQUARES);
                    play(x, again == 0 ? LATER_ROW : "g5;p5");
                    x.restoreSnapshot();
                    is("the state of the snapshot after \"" + moves + "\"", state(played(moves)), state(x));
                    play(x, moves.equals("g0") ? "p3" : "");
                }
                is("answers of the snapshot after \"" + moves + "\"", answers(played(moves)),
                    answers(restored(x)));
            }
            HazelGift x = restored(taken(played("g0")));
            x.undo();
            x.undo();
            is("restoreSnapshot(), kept after undo()", 0, x.restoreSnapshot());
            is("gift()", 0, x.gift());
        });
        says("This is an action.", () -> {
            isAction("restoreSnapshot()", () -> busy("g1;p1"), x -> x.restoreSnapshot());
            isAction("restoreSnapshot() of the same state", () -> taken(busy(ROW)), x -> x.restoreSnapshot());
            isAction("restoreSnapshot() after a draw", () -> busy(DRAWN), x -> x.restoreSnapshot());
        });
        says("Returns the number of pieces on the board afterwards.", () -> {
            HazelGift empty = play(taken(new HazelGift()), "g1;p1");
            is("restoreSnapshot() of an empty board", 0, empty.restoreSnapshot());
            is("restoreSnapshot() of one piece and a gift", 1, busy(ROW).restoreSnapshot());
            HazelGift full = taken(played(DRAWN));
            full.restart(HazelGift.LINES);
            is("restoreSnapshot() of a full board", 16, full.restoreSnapshot());
        });
        says("Throws `IllegalStateException` if there is no snapshot", () -> {
            Supplier<HazelGift> none = () -> write(played("g1;p1;g2;p2"), "g3");
            refuses("restoreSnapshot() of a new object", STATE, () -> new HazelGift(), x -> x.restoreSnapshot());
            refuses("restoreSnapshot() without any", STATE, none, x -> x.restoreSnapshot());
            refuses("restoreSnapshot() after undo()", STATE, () -> undone(none.get(), 2), x -> x.restoreSnapshot());
            refuses("restoreSnapshot() after restart()", STATE, () -> played(HazelGift.SQUARES, "g1"),
                x -> x.restoreSnapshot());
        });
    }

    private static HazelGift restored(HazelGift x) {
        x.restoreSnapshot();
        return x;
    }
}
