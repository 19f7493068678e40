import java.util.function.Supplier;

/**
 * What the tests share: games as texts, pictures of a state, and a count of the answers that are not as due. No
 * test asks one object more than 512 times, since what later calls answer is free.
 */
abstract class Checks {
    static final String INDEX = "IndexOutOfBoundsException";
    static final String STATE = "IllegalStateException";
    static final String ARGUMENT = "IllegalArgumentException";

    // Twelve pieces on the first three rows, and nobody has won; player 0 gives.
    static final String TWELVE = "g0;p0;g15;p1;g1;p2;g14;p3;g13;p4;g2;p5;g12;p6;g3;p7;g4;p8;g11;p9;g5;p10;g10;p11";
    // Twelve pieces, from where nobody wins with best moves.
    static final String EVEN = "g1;p15;g14;p3;g3;p9;g5;p8;g0;p7;g15;p11;g6;p0;g10;p10;g8;p1;g13;p5;g9;p4;g7;p2";
    // All sixteen pieces, and nobody has won.
    static final String DRAWN = "g5;p2;g6;p4;g15;p0;g9;p11;g3;p1;g8;p3;g11;p15;g7;p8;g4;p7;g1;p12;g14;p13;g13;p6;"
        + "g10;p14;g2;p9;g0;p5;g12;p10";
    // Fifteen pieces, and nobody wins; the piece 0 and the cell 0 are left.
    static final String LEFT_ZERO = "g9;p8;g10;p14;g3;p10;g5;p1;g15;p11;g4;p9;g7;p5;g11;p2;g8;p13;g13;p6;g2;"
        + "p7;g1;p12;g6;p4;g14;p3;g12;p15";
    // Player 0 wins with the sixteenth piece.
    static final String WON_LAST = "g0;p11;g5;p14;g14;p13;g7;p6;g1;p15;g12;p12;g4;p4;g10;p3;g15;p7;g2;p5;g6;p0;"
        + "g11;p8;g13;p2;g8;p9;g3;p1;g9;p10";
    // Player 0 wins two lines with the tenth piece.
    static final String TWO_LINES = "g0;p1;g15;p7;g6;p12;g11;p15;g4;p2;g13;p8;g9;p5;g7;p11;g8;p0;g2;p3";
    // Player 0 wins with the fourth piece.
    static final String ROW = "g0;p0;g1;p1;g3;p2;g7;p3";
    // The same by player 1, with the fifth piece.
    static final String LATER_ROW = "g0;p0;g1;p1;g8;p15;g3;p2;g7;p3";
    // A square that is no line with the rule LINES.
    static final String SQUARE = "g15;p0;g14;p1;g12;p4;g8;p5";
    // Fifteen pieces with the rule SQUARES, and nobody wins; the piece 4 and the cell 12 are left.
    static final String SQUARES_LEFT = "g0;p2;g1;p10;g5;p13;g13;p11;g10;p7;g14;p14;g9;p3;g6;p6;g2;p15;g12;p5;g11;p4;"
        + "g7;p1;g8;p9;g3;p8;g15;p0";
    // Twenty moves, all of which can be made on an empty board, in a text that is full.
    static final String FULL_TEXT = "g0;p0;g9;p1;g2;p2;g4;p8;g5;p9;g6;p4;g8;p5;g3;p7;g1;p6;g7;p10";

    static int wrong = 0;
    // The promise or the sentence that is looked at.
    static String looked = "";

    interface Call {
        Object answer();
    }

    interface Ask {
        Object of(HazelGift x);
    }

    static String told(Call call) {
        try {
            return String.valueOf(call.answer());
        } catch (RuntimeException e) {
            return "throws." + e.getClass().getSimpleName();
        }
    }

    static void due(String call, Object want, Call got) {
        is(call, want, told(got));
    }

    static void is(String call, Object want, Object got) {
        if (!String.valueOf(got).equals(String.valueOf(want))) {
            wrong++;
            System.out.println(looked + ": " + call + " answered " + got + ", due is " + want);
        }
    }

    static void refused(String call, String exception, Call got) {
        due(call, "throws." + exception, got);
    }

    /** A call that throws changes nothing that can be seen at once. */
    static void refusedKeeping(HazelGift x, String call, String exception, Call got) {
        String before = picture(x);
        refused(call, exception, got);
        is("the state after " + call, before, picture(x));
    }

    /** An object to which the call was refused goes on, in all that it keeps, like one of which it was not asked. */
    static void refuses(String call, String exception, Supplier<HazelGift> make, Ask ask) {
        HazelGift asked = make.get();
        refused(call, exception, () -> ask.of(asked));
        is("what is kept after " + call, whole(make.get()), whole(asked));
    }

    static HazelGift play(HazelGift x, String moves) {
        for (String move : moves.isEmpty() ? new String[0] : moves.split(";")) {
            int number = Integer.parseInt(move.substring(1));
            if (move.charAt(0) == 'g') {
                x.give(number);
            } else {
                x.place(number);
            }
        }
        return x;
    }

    static HazelGift played(String moves) {
        return play(new HazelGift(), moves);
    }

    static HazelGift squares(String moves) {
        return played(HazelGift.SQUARES, moves);
    }

    static HazelGift played(int rule, String moves) {
        HazelGift x = new HazelGift();
        x.restart(rule);
        return play(x, moves);
    }

    /** The game without its last move. */
    static String cut(String moves) {
        return moves.substring(0, Math.max(0, moves.lastIndexOf(';')));
    }

    /** The same game with each piece and each cell counted from the other end, which wins and draws alike. */
    static String mirrored(String moves) {
        StringBuilder s = new StringBuilder();
        for (String move : moves.split(";")) {
            s.append(s.length() == 0 ? "" : ";").append(move.charAt(0));
            s.append(15 - Integer.parseInt(move.substring(1)));
        }
        return s.toString();
    }

    static HazelGift write(HazelGift x, String text) {
        x.clearText();
        for (char c : text.toCharArray()) {
            x.type(c);
        }
        return x;
    }

    static HazelGift typed(String text) {
        return write(new HazelGift(), text);
    }

    /** After these moves, with four recorded states, a snapshot of another state, and a text. */
    static HazelGift busy(int rule, String moves) {
        HazelGift x = new HazelGift();
        x.restart(HazelGift.SQUARES);
        play(x, "g7;p7;g9");
        x.takeSnapshot();
        x.restart(rule);
        return write(play(x, moves), "g12;p3");
    }

    static HazelGift busy(String moves) {
        return busy(HazelGift.LINES, moves);
    }

    /** The same state without recorded states. */
    static HazelGift forgotten(HazelGift x) {
        for (int i = 0; i < 4; i++) {
            x.restart(HazelGift.LINES);
        }
        while (x.recordedStates() > 0) {
            x.undo();
        }
        return x;
    }

    /** The state, in the document's sense; two objects in the same state tell the same. */
    static String state(HazelGift x) {
        StringBuilder s = new StringBuilder();
        s.append(x.playerToMove()).append(' ').append(x.gift()).append(' ').append(x.placed()).append(' ');
        s.append(x.winner()).append(' ').append(x.isOver()).append(' ').append(x.rule()).append(' ');
        s.append(x.winsOf(0)).append(' ').append(x.winsOf(1)).append(" board");
        for (int cell = 0; cell < 16; cell++) {
            s.append(' ').append(x.pieceOn(cell));
        }
        return s.toString();
    }

    /** The state and the rest that can be seen without a change. */
    static String picture(HazelGift x) {
        return state(x) + " error " + x.textError() + " recorded " + x.recordedStates();
    }

    /** What is asked about a state, as far as the state's picture does not hold it. */
    static String answers(HazelGift x) {
        StringBuilder s = new StringBuilder("lines ");
        s.append(x.lines()).append(' ').append(x.wonLines()).append(" safe ");
        s.append(x.safeByTrying()).append(' ').append(x.safeByLines()).append(" end ");
        s.append(told(x::outcome)).append(' ').append(told(x::bestMove)).append(" pieces");
        for (int piece = 0; piece < 16; piece++) {
            s.append(' ').append(x.cellOf(piece)).append(' ').append(x.winningCell(piece));
        }
        s.append(" on lines");
        for (int line = 0; line < x.lines(); line++) {
            s.append(' ').append(x.piecesOn(line)).append(' ').append(x.sharedOn(line));
        }
        return s.toString();
    }

    /** All that an object keeps; what cannot be seen otherwise is undone, restored and carried out. */
    static String whole(HazelGift x) {
        StringBuilder s = new StringBuilder(picture(x)).append('\n').append(answers(x));
        for (int i = 0; i < 5; i++) {
            s.append("\nundo ").append(told(x::undo)).append(' ').append(state(x));
        }
        s.append("\nsnapshot ").append(told(x::restoreSnapshot)).append(' ').append(state(x));
        x.restart(HazelGift.LINES);
        s.append("\ntext ").append(told(x::impossibleMove)).append(' ').append(told(x::carryOut));
        return s.append(' ').append(state(x)).append(' ').append(x.clearText()).toString();
    }

    /** Tells what was found, and ends with 1 if anything was wrong. */
    static void end() {
        System.out.println(wrong == 0 ? "all answers are as due" : wrong + " answers are not as due");
        if (wrong != 0) {
            System.exit(1);
        }
    }
}
