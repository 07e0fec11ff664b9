/** Promises 1 to 6: a new object, clear, begin, put, state, clocks; a test a sentence. */
public final class SettingUpTest extends BoardTest {
    public static void main(String[] args) {
        runAll(SettingUpTest.class, 1, 6);
    }

    /** 32 white kings on the squares 0 .. 31. */
    private static Board fullBoard() {
        Board board = new Board();
        for (int square = 0; square < 32; square++) {
            board.put(square, 6);
        }
        return board;
    }

    /** Nothing of it is as at first, and moves can be taken back. */
    private static Board playedBoard() {
        Board board = Chess.board("r3k2r/8/8/8/2p5/8/1P6/R3K2R w KQkq h6 40 50");
        play(board, "a1a8", "e8f7", "b2b4");
        return board;
    }

    private static void forgetsMoves(String call, Board board) {
        Due.same(call + " forgets: look(6)", board.look(6), 0);
        Due.same(call + " forgets: move(0)", board.move(0), Board.NONE);
        refuses(call + " forgets: unmake()", STATE, board, board::unmake);
    }

    // ---- Promise 1: A new object

    /** "An empty board." "At first the board is empty, SIDE 0, RIGHTS 0, PASSING NONE, HALF 0, FULL 1." */
    static void promise1AllIsAsAtFirst() {
        Board board = new Board();
        isAsAtFirst("new", board);
        for (int square = 0; square < 64; square++) {
            Due.same("new: at(" + square + ")", board.at(square), 0);
        }
        for (int piece = 1; piece <= 12; piece++) {
            Due.same("new: where(" + piece + ")", board.where(piece), 0);
        }
    }

    /** "An empty board", whatever has been done to another one. */
    static void promise1ObjectsShareNothing() {
        Board one = playedBoard();
        String before = seen(one);
        Board other = new Board();
        isAsAtFirst("new beside another", other);
        other.begin();
        unchanged("begin() of another", before, one);
    }

    // ---- Promise 2: clear

    /** "All is as at first." */
    static void promise2ClearOfSetUpBoard() {
        Board board = Chess.board("4k3/8/8/8/4p3/8/3P4/4K3 b KQ e3 40 50");
        board.clear();
        isAsAtFirst("clear()", board);
    }

    /** "All is as at first": each part that can be set up, by itself. */
    static void promise2ClearOfEachPart() {
        Board board = new Board();
        for (int square = 0; square < 64; square++) {
            board.put(square, 1 + square % 12);
            board.clear();
            Due.same("clear() behind a piece on " + square, board.where(0), -1L);
        }
        board.state(1, 0, Board.NONE);
        board.clear();
        isAsAtFirst("clear() behind SIDE", board);
        board.state(0, 15, Board.NONE);
        board.clear();
        isAsAtFirst("clear() behind RIGHTS", board);
        board.state(0, 0, 0);
        board.clear();
        isAsAtFirst("clear() behind PASSING", board);
        board.clocks(9999, 1);
        board.clear();
        isAsAtFirst("clear() behind HALF", board);
        board.clocks(0, 9999);
        board.clear();
        isAsAtFirst("clear() behind FULL", board);
    }

    /** "All is as at first", where it was so already. */
    static void promise2ClearOfEmptyBoard() {
        Board board = new Board();
        board.clear();
        isAsAtFirst("clear() of a new one", board);
        board.clear();
        isAsAtFirst("clear() twice", board);
    }

    /** "All is as at first": a full board has room for 32 pieces again. */
    static void promise2ClearOfFullBoard() {
        Board board = fullBoard();
        board.clear();
        isAsAtFirst("clear() of a full one", board);
        for (int square = 32; square < 64; square++) {
            board.put(square, 7);
        }
        Due.same("look(5) behind 32 more", board.look(5), 32);
        refuses("the 33rd", STATE, board, () -> board.put(0, 7));
    }

    /** "Setting up anything forgets them." */
    static void promise2ClearForgetsMoves() {
        Board board = playedBoard();
        board.clear();
        forgetsMoves("clear()", board);
        isAsAtFirst("clear() behind moves", board);
    }

    // ---- Promise 3: begin

    /** "The position in which a game of chess begins." */
    static void promise3BeginOfNewBoard() {
        Board board = new Board();
        board.begin();
        isAtTheBeginning("begin()", board);
    }

    /** "The position in which a game of chess begins", whatever was before: nothing of that stays. */
    static void promise3BeginOfFullBoard() {
        Board board = new Board();
        for (int square = 16; square < 48; square++) {
            board.put(square, 11);
        }
        board.state(1, 0, 20);
        board.clocks(40, 50);
        board.begin();
        isAtTheBeginning("begin() of a full one", board);
        board.begin();
        isAtTheBeginning("begin() twice", board);
    }

    /** "IllegalStateException if it would be the 33rd piece": the beginning has 32. */
    static void promise3BeginFillsTheBoard() {
        Board board = begun();
        refuses("the 33rd piece", STATE, board, () -> board.put(30, 1));
        board.put(8, 0);
        board.put(30, 1);
        Due.same("look(5) behind one less and one more", board.look(5), 32);
    }

    /** "Setting up anything forgets them." */
    static void promise3BeginForgetsMoves() {
        Board board = playedBoard();
        board.begin();
        forgetsMoves("begin()", board);
        isAtTheBeginning("begin() behind moves", board);
        play(board, "e2e4");
        Due.same("begin(), e2e4: unmake()", board.unmake(), Chess.move("e2e4"));
        isAtTheBeginning("e2e4 taken back", board);
    }

    // ---- Promise 4: put

    /** "A square gets a piece (or none)": each piece, instead of each that may stand there before. */
    static void promise4PutEachPiece() {
        Board board = new Board();
        for (int before = 0; before <= 12; before++) {
            for (int piece = 0; piece <= 12; piece++) {
                board.put(35, before);
                board.put(35, piece);
                Due.same("put(35, " + piece + ") instead of " + before, board.at(35), piece);
            }
        }
    }

    /** "SQUARES are 0 .. 63": each of them gets its piece, and no other does. */
    static void promise4PutOnEachSquare() {
        Board board = new Board();
        for (int square = 0; square < 64; square++) {
            board.put(square, 12);
            Due.same("put(" + square + ", 12) at", board.at(square), 12);
            Due.same("put(" + square + ", 12) where", board.where(12), 1L << square);
            board.put(square, 0);
            Due.same("put(" + square + ", 0)", board.where(0), -1L);
        }
    }

    /** "(or none)": to an empty square too. */
    static void promise4PutNone() {
        Board board = alone(9, 5);
        board.put(9, 0);
        Due.same("put(9, 0) at", board.at(9), 0);
        Due.same("put(9, 0) look(5)", board.look(5), 0);
        Due.same("put(9, 0) look(7)", board.look(7), 0);
        board.put(9, 0);
        Due.same("put(9, 0) again", board.look(5), 0);
        isAsAtFirst("put(9, 0)", board);
    }

    /** What put sets up is one square: SIDE, RIGHTS, PASSING and the clocks stay. */
    static void promise4PutLeavesTheRest() {
        Board board = new Board();
        board.state(1, 15, 20);
        board.clocks(7, 8);
        board.put(20, 12);
        looks("put(20, 12)", board, 1, 15, 20, 7, 8, 1, 0, 0, 0);
        board.put(20, 0);
        looks("put(20, 0)", board, 1, 15, 20, 7, 8, 0, 0, 0, 0);
    }

    /** "IndexOutOfBoundsException if there is no such square": 0 and 63 are, -1 and 64 are not. */
    static void promise4NoSuchSquare() {
        Board board = new Board();
        board.put(0, 1);
        board.put(63, 7);
        Due.same("put(0, 1), put(63, 7)", board.where(0), ~Chess.bits("a1", "h8"));
        refuses("put(-1, 1)", INDEX, board, () -> board.put(-1, 1));
        refuses("put(-1, 0)", INDEX, board, () -> board.put(-1, 0));
        refuses("put(64, 1)", INDEX, board, () -> board.put(64, 1));
        refuses("put(64, 0)", INDEX, board, () -> board.put(64, 0));
        for (int wrong : NOTHING) {
            refuses("put(" + wrong + ", 1)", INDEX, board, () -> board.put(wrong, 1));
        }
    }

    /** "IllegalArgumentException if there is no such piece": 0 and 12 are, -1 and 13 are not. */
    static void promise4NoSuchPiece() {
        Board board = new Board();
        board.put(5, 12);
        Due.same("put(5, 12)", board.at(5), 12);
        board.put(5, 0);
        Due.same("put(5, 0)", board.at(5), 0);
        refuses("put(5, -1)", ARGUMENT, board, () -> board.put(5, -1));
        refuses("put(5, 13)", ARGUMENT, board, () -> board.put(5, 13));
        for (int wrong : NOTHING) {
            refuses("put(5, " + wrong + ")", ARGUMENT, board, () -> board.put(5, wrong));
        }
    }

    /** "IllegalStateException if it would be the 33rd piece": the 32nd is not. */
    static void promise4The33rdPiece() {
        Board board = new Board();
        for (int square = 0; square < 31; square++) {
            board.put(square, 6);
        }
        Due.same("31 pieces", board.look(5), 31);
        board.put(31, 6);
        Due.same("32 pieces", board.look(5), 32);
        for (int piece = 1; piece <= 12; piece++) {
            int one = piece;
            refuses("the 33rd, " + piece, STATE, board, () -> board.put(32, one));
        }
        refuses("the 33rd on 63", STATE, board, () -> board.put(63, 1));
    }

    /** "If it would be the 33rd piece": one instead of another is not, on a full board. */
    static void promise4AnotherPieceOnFullBoard() {
        Board board = fullBoard();
        for (int piece = 1; piece <= 12; piece++) {
            board.put(31, piece);
            Due.same("put(31, " + piece + ")", board.at(31), piece);
            Due.same("put(31, " + piece + ") look(5)", board.look(5), 32);
        }
        refuses("the 33rd", STATE, board, () -> board.put(32, 1));
    }

    /** "If it would be the 33rd piece": none is no piece, on a full board. */
    static void promise4NoneOnFullBoard() {
        Board board = fullBoard();
        board.put(40, 0);
        Due.same("put(40, 0) beside 32", board.look(5), 32);
        refuses("the 33rd", STATE, board, () -> board.put(40, 1));
        board.put(0, 0);
        Due.same("put(0, 0)", board.look(5), 31);
        board.put(40, 1);
        Due.same("put(40, 1) behind it", board.at(40), 1);
        refuses("the 33rd again", STATE, board, () -> board.put(0, 1));
    }

    /** "If it would be the 33rd piece": what moves take makes room, what is taken back fills it again. */
    static void promise4FullBoardAndMoves() {
        Board board = begun("e2e4", "d7d5");
        refuses("the 33rd behind moves", STATE, board, () -> board.put(30, 7));
        play(board, "e4d5");
        board.unmake();
        refuses("the 33rd behind a taking that was taken back", STATE, board, () -> board.put(30, 7));
        play(board, "e4d5");
        board.put(30, 7);
        Due.same("one put for one that was taken", board.look(5), 32);
        refuses("the 33rd behind that", STATE, board, () -> board.put(31, 7));
    }

    /** "Of several exceptions the first one listed is thrown." */
    static void promise4FirstListedIsThrown() {
        Board full = fullBoard();
        refuses("no square, no piece", INDEX, full, () -> full.put(64, 13));
        refuses("no square, no piece", INDEX, full, () -> full.put(-1, -1));
        refuses("no square, the 33rd", INDEX, full, () -> full.put(64, 1));
        refuses("no piece, the 33rd", ARGUMENT, full, () -> full.put(32, 13));
        refuses("no piece, the 33rd", ARGUMENT, full, () -> full.put(32, -1));
        Board empty = new Board();
        refuses("no square, no piece", INDEX, empty, () -> empty.put(-1, 13));
    }

    /** "What throws changes nothing": moves are not forgotten by it. */
    static void promise4ThrowsChangesNothing() {
        Board board = begun("e2e4", "e7e5");
        refuses("put(64, 0)", INDEX, board, () -> board.put(64, 0));
        refuses("put(0, 13)", ARGUMENT, board, () -> board.put(0, 13));
        refuses("put(30, 7)", STATE, board, () -> board.put(30, 7));
        Due.same("unmake() behind them", board.unmake(), Chess.move("e7e5"));
        Due.same("unmake() once more", board.unmake(), Chess.move("e2e4"));
        isAtTheBeginning("taken back", board);
    }

    /** "Setting up anything forgets them": even what was so before. */
    static void promise4PutForgetsMoves() {
        Board none = begun("e2e4", "e7e5");
        none.put(40, 0);
        forgetsMoves("put(40, 0)", none);
        Board same = begun("e2e4", "e7e5");
        same.put(28, 1);
        forgetsMoves("put(28, 1)", same);
        Board other = begun("e2e4", "e7e5");
        other.put(28, 2);
        forgetsMoves("put(28, 2)", other);
    }

    // ---- Promise 5: state

    /** "SIDE, RIGHTS and PASSING are set up": each side with all rights with each square and NONE. */
    static void promise5StateOfEachKind() {
        for (int passing = Board.NONE; passing <= 63; passing++) {
            Board board = new Board();
            for (int rights = 0; rights <= 15; rights++) {
                for (int side = 0; side <= 1; side++) {
                    board.state(side, rights, passing);
                    looks("state(" + side + ", " + rights + ", " + passing + ")", board, side, rights, passing);
                }
            }
        }
    }

    /** What is set up is taken as it is: no king, rook or pawn has to fit to it. */
    static void promise5StateOfAnyPosition() {
        Board board = begun();
        board.state(1, 5, 4);
        looks("state(1, 5, 4)", board, 1, 5, 4, 0, 1, 32, 0, 39, 39);
        Board empty = new Board();
        empty.state(1, 15, 63);
        looks("state(1, 15, 63)", empty, 1, 15, 63, 0, 1, 0, 0, 0, 0);
    }

    /** What state sets up is no piece and no clock. */
    static void promise5StateLeavesTheRest() {
        Board board = Chess.board("4k3/8/8/8/8/8/8/4K3 w - - 7 8");
        board.state(1, 15, 63);
        looks("state(1, 15, 63)", board, 1, 15, 63, 7, 8, 2, 0, 0, 0);
        Due.same("where(0)", board.where(0), ~Chess.bits("e1", "e8"));
    }

    /** "IllegalArgumentException if there is no such SIDE": 0 and 1 are, -1 and 2 are not. */
    static void promise5NoSuchSide() {
        Board board = Chess.board("4k3/8/8/8/8/8/8/4K3 w - - 7 8");
        refuses("state(-1, 0, 0)", ARGUMENT, board, () -> board.state(-1, 0, 0));
        refuses("state(2, 0, 0)", ARGUMENT, board, () -> board.state(2, 0, 0));
        for (int wrong : NOTHING) {
            refuses("state(" + wrong + ", 0, 0)", ARGUMENT, board, () -> board.state(wrong, 0, 0));
        }
    }

    /** "IllegalArgumentException if RIGHTS are not 0 .. 15": -1 and 16 are not. */
    static void promise5RightsNot0To15() {
        Board board = Chess.board("4k3/8/8/8/8/8/8/4K3 w - - 7 8");
        refuses("state(1, -1, 0)", ARGUMENT, board, () -> board.state(1, -1, 0));
        refuses("state(1, 16, 0)", ARGUMENT, board, () -> board.state(1, 16, 0));
        refuses("state(1, 31, 0)", ARGUMENT, board, () -> board.state(1, 31, 0));
        for (int wrong : NOTHING) {
            refuses("state(1, " + wrong + ", 0)", ARGUMENT, board, () -> board.state(1, wrong, 0));
        }
    }

    /** "IllegalArgumentException if passing is neither a square nor NONE": -1, 0 and 63 are, -2 and 64 not. */
    static void promise5PassingNeitherSquareNorNone() {
        Board board = Chess.board("4k3/8/8/8/8/8/8/4K3 w - - 7 8");
        for (int wrong : NOTHING) {
            refuses("state(1, 1, " + wrong + ")", ARGUMENT, board, () -> board.state(1, 1, wrong));
        }
        board.state(0, 0, Board.NONE);
        Due.same("NONE", board.look(2), Board.NONE);
        board.state(0, 0, 0);
        Due.same("0", board.look(2), 0);
        board.state(0, 0, 63);
        Due.same("63", board.look(2), 63);
    }

    /** "What throws changes nothing": not the parts that are right either, and no move is forgotten. */
    static void promise5ThrowsChangesNothing() {
        Board board = begun("e2e4", "e7e5");
        refuses("state(2, 3, 4)", ARGUMENT, board, () -> board.state(2, 3, 4));
        refuses("state(1, 16, 4)", ARGUMENT, board, () -> board.state(1, 16, 4));
        refuses("state(1, 3, 64)", ARGUMENT, board, () -> board.state(1, 3, 64));
        refuses("state(-1, -1, -2)", ARGUMENT, board, () -> board.state(-1, -1, -2));
        Due.same("unmake() behind them", board.unmake(), Chess.move("e7e5"));
        Due.same("unmake() once more", board.unmake(), Chess.move("e2e4"));
        isAtTheBeginning("taken back", board);
    }

    /** "Setting up anything forgets them": even what was so before. */
    static void promise5StateForgetsMoves() {
        Board same = begun("e2e4", "e7e5");
        same.state(0, 15, Board.NONE);
        forgetsMoves("state(0, 15, NONE)", same);
        Board other = begun("e2e4", "e7e5");
        other.state(1, 0, 0);
        forgetsMoves("state(1, 0, 0)", other);
    }

    // ---- Promise 6: clocks

    /** "HALF and FULL are set up": the least and the most of each, with the least and the most of the other. */
    static void promise6ClocksLeastAndMost() {
        Board board = new Board();
        for (int half : new int[] {0, 1, 100, 255, 256, 9998, 9999}) {
            for (int full : new int[] {1, 2, 255, 256, 9998, 9999}) {
                board.clocks(half, full);
                Due.same("clocks(" + half + ", " + full + ") half", board.look(3), half);
                Due.same("clocks(" + half + ", " + full + ") full", board.look(4), full);
            }
        }
    }

    /** What clocks sets up is no piece, SIDE, RIGHTS or PASSING. */
    static void promise6ClocksLeaveTheRest() {
        Board board = Chess.board("4k3/8/8/8/8/8/8/4K3 b KQ e3");
        board.clocks(9, 10);
        looks("clocks(9, 10)", board, 1, 3, Chess.square("e3"), 9, 10, 2, 0, 0, 0);
        Due.same("where(0)", board.where(0), ~Chess.bits("e1", "e8"));
    }

    /** "IllegalArgumentException if half is not 0 .. 9999": -1 and 10000 are not. */
    static void promise6HalfNot0To9999() {
        Board board = Chess.board("4k3/8/8/8/8/8/8/4K3 b KQ e3 5 6");
        for (int wrong : new int[] {-1, 10000, 10001, -9999, 65536, Integer.MIN_VALUE, Integer.MAX_VALUE}) {
            refuses("clocks(" + wrong + ", 1)", ARGUMENT, board, () -> board.clocks(wrong, 1));
            refuses("clocks(" + wrong + ", 9999)", ARGUMENT, board, () -> board.clocks(wrong, 9999));
        }
    }

    /** "IllegalArgumentException if full is not 1 .. 9999": 0 and 10000 are not. */
    static void promise6FullNot1To9999() {
        Board board = Chess.board("4k3/8/8/8/8/8/8/4K3 b KQ e3 5 6");
        for (int wrong : new int[] {0, 10000, -1, 10001, -9999, 65537, Integer.MIN_VALUE, Integer.MAX_VALUE}) {
            refuses("clocks(0, " + wrong + ")", ARGUMENT, board, () -> board.clocks(0, wrong));
            refuses("clocks(9999, " + wrong + ")", ARGUMENT, board, () -> board.clocks(9999, wrong));
        }
    }

    /** "What throws changes nothing": not the clock that is right either, and no move is forgotten. */
    static void promise6ThrowsChangesNothing() {
        Board board = begun("e2e4", "e7e5");
        refuses("clocks(7, 0)", ARGUMENT, board, () -> board.clocks(7, 0));
        refuses("clocks(7, 10000)", ARGUMENT, board, () -> board.clocks(7, 10000));
        refuses("clocks(-1, 7)", ARGUMENT, board, () -> board.clocks(-1, 7));
        refuses("clocks(10000, 7)", ARGUMENT, board, () -> board.clocks(10000, 7));
        refuses("clocks(-1, 0)", ARGUMENT, board, () -> board.clocks(-1, 0));
        Due.same("unmake() behind them", board.unmake(), Chess.move("e7e5"));
        Due.same("unmake() once more", board.unmake(), Chess.move("e2e4"));
        isAtTheBeginning("taken back", board);
    }

    /** "Setting up anything forgets them": even what was so before. */
    static void promise6ClocksForgetMoves() {
        Board same = begun("e2e4", "e7e5");
        same.clocks(0, 2);
        forgetsMoves("clocks(0, 2)", same);
        Board other = begun("e2e4", "e7e5");
        other.clocks(3, 4);
        forgetsMoves("clocks(3, 4)", other);
    }
}
