/** Promises 8 and 9: moves are made and taken back; a test a sentence. */
public final class MakingTest extends BoardTest {
    private static final String ROOKS = "r3k2r/8/8/8/8/8/8/R3K2R w KQkq - 5 6";
    private static final String[] CIRCLE = {"g1f3", "g8f6", "f3g1", "f6g8"};

    public static void main(String[] args) {
        runAll(MakingTest.class, 8, 9);
    }

    private static String toBlack(String fen) {
        return fen.replace(" w ", " b ");
    }

    // ---- Promise 8: make: the piece

    /** "The piece comes to to": from is empty behind it, and "the other SIDE is to move". */
    static void promise8PieceComesToTo() {
        making(START, "g1f3", 0, "rnbqkbnr/pppppppp/8/8/8/5N2/PPPPPPPP/RNBQKB1R b KQkq - 1 1");
        making(START, "e2e3", 0, "rnbqkbnr/pppppppp/8/8/8/4P3/PPPP1PPP/RNBQKBNR b KQkq - 0 1");
        making("7k/8/8/8/8/8/8/Q7 w - - 8 3", "a1g7", 0, "7k/6Q1/8/8/8/8/8/8 b - - 9 3");
        making("Q7/8/8/8/8/8/8/8 w - - 0 1", "a8h1", 0, "8/8/8/8/8/8/8/7Q b - - 1 1");
        making("7q/8/8/8/8/8/8/8 b - - 0 1", "h8a1", 0, "8/8/8/8/8/8/8/q7 w - - 1 2");
        making("4r1k1/8/8/8/8/8/4B3/4K3 w - - 0 1", "e2d3", 0, "4r1k1/8/8/8/8/3B4/8/4K3 b - - 1 1");
    }

    /** "(What stands there is taken)": "the piece that was taken, 0 for none", whichever takes whichever. */
    static void promise8AnswersWhatIsTaken() {
        for (int taker = 1; taker <= 6; taker++) {
            for (int taken = 1; taken <= 5; taken++) {
                takes(taker, taken + 6);
                takes(taker + 6, taken);
            }
        }
        for (int piece = 1; piece <= 12; piece++) {
            int way = piece % 6 == 2 ? 17 : piece % 6 == 3 ? 9 : 8;
            int to = piece > 6 ? 27 - way : 27 + way;
            Due.same("nothing taken by " + piece, alone(27, piece).make(Chess.move(27, to, 0)), 0);
        }
    }

    private static void takes(int taker, int taken) {
        int type = (taker - 1) % 6 + 1;
        int way = type == 2 ? 17 : type == 4 ? 8 : 9;
        int to = taker > 6 ? 27 - way : 27 + way;
        String what = taker + " takes " + taken;
        Board board = alone(27, taker);
        board.put(to, taken);
        board.clocks(7, 8);
        int move = Chess.move(27, to, 0);
        Due.same(what, board.make(move), taken);
        Due.same(what + ": at(to)", board.at(to), taker);
        Due.same(what + ": where(0)", board.where(0), ~(1L << to));
        looks(what, board, taker > 6 ? 0 : 1, 0, Board.NONE, 0, taker > 6 ? 9 : 8, 1, 1);
        Due.same(what + ": unmake()", board.unmake(), move);
        Due.same(what + ": at(to) taken back", board.at(to), taken);
        Due.same(what + ": at(from) taken back", board.at(27), taker);
        Due.same(what + ": look(5) taken back", board.look(5), 2);
    }

    /** "As what it becomes": 2 knight, 3 bishop, 4 rook, 5 queen, of the pawn's SIDE, taking something or not. */
    static void promise8PawnBecomesAPiece() {
        String fen = "1n6/P7/8/8/8/8/p7/1N6 w - - 9 9";
        String black = toBlack(fen);
        for (String letter : new String[] {"n", "b", "r", "q"}) {
            String big = letter.toUpperCase();
            making(fen, "a7a8" + letter, 0, big + "n6/8/8/8/8/8/p7/1N6 b - - 0 9");
            making(fen, "a7b8" + letter, 8, "1" + big + "6/8/8/8/8/8/p7/1N6 b - - 0 9");
            making(black, "a2a1" + letter, 0, "1n6/P7/8/8/8/8/8/" + letter + "N6 w - - 0 10");
            making(black, "a2b1" + letter, 2, "1n6/P7/8/8/8/8/8/1" + letter + "6 w - - 0 10");
        }
    }

    // ---- castling

    /** "In CASTLING the rook comes to the square that the king has passed." */
    static void promise8CastlingBringsTheRook() {
        String fen = "r3k2r/8/8/8/8/8/8/R3K2R w KQkq d6 5 6";
        making(fen, "e1g1", 0, "r3k2r/8/8/8/8/8/8/R4RK1 b kq - 6 6");
        making(fen, "e1c1", 0, "r3k2r/8/8/8/8/8/8/2KR3R b kq - 6 6");
        making(toBlack(fen), "e8g8", 0, "r4rk1/8/8/8/8/8/8/R3K2R w KQ - 6 7");
        making(toBlack(fen), "e8c8", 0, "2kr3r/8/8/8/8/8/8/R3K2R w KQ - 6 7");
    }

    /** "In CASTLING": a step of the king brings no rook, nor do two files of another piece. */
    static void promise8NoRookWithoutCastling() {
        making(ROOKS, "e1f1", 0, "r3k2r/8/8/8/8/8/8/R4K1R b kq - 6 6");
        making(ROOKS, "e1d1", 0, "r3k2r/8/8/8/8/8/8/R2K3R b kq - 6 6");
        making("8/8/8/8/8/8/8/R3Q2R w - - 5 6", "e1g1", 0, "8/8/8/8/8/8/8/R5QR b - - 6 6");
        making("8/8/8/8/8/8/8/R3R2R w KQ - 5 6", "e1c1", 0, "8/8/8/8/8/8/8/R1R4R b KQ - 6 6");
        making("r3q2r/8/8/8/8/8/8/8 b kq - 5 6", "e8g8", 0, "r5qr/8/8/8/8/8/8/8 w kq - 6 7");
    }

    // ---- in passing

    /** "A pawn that comes to PASSING, which is empty, by an ATTACK takes the pawn behind that." */
    static void promise8TakesInPassing() {
        making("8/8/8/3pP3/8/8/8/8 w - d6 4 9", "e5d6", 7, "8/8/3P4/8/8/8/8/8 b - - 0 9");
        making("8/8/8/3pPp2/8/8/8/8 w - f6 4 9", "e5f6", 7, "8/8/5P2/3p4/8/8/8/8 b - - 0 9");
        making("8/8/8/8/3pP3/8/8/8 b - e3 4 9", "d4e3", 1, "8/8/8/8/8/4p3/8/8 w - - 0 10");
        making("8/8/8/pP6/8/8/8/8 w - a6 4 9", "b5a6", 7, "8/8/P7/8/8/8/8/8 b - - 0 9");
        making("8/8/8/6Pp/8/8/8/8 w - h6 4 9", "g5h6", 7, "8/8/7P/8/8/8/8/8 b - - 0 9");
        making("8/8/8/8/6pP/8/8/8 b - h3 4 9", "g4h3", 1, "8/8/8/8/8/7p/8/8 w - - 0 10");
        Board board = begun("e2e4", "a7a6", "e4e5", "d7d5");
        Due.same("PASSING behind d7d5", board.look(2), Chess.square("d6"));
        Due.same("e5d6 takes", board.make(Chess.move("e5d6")), 7);
        Due.same("d5 behind it", board.at(Chess.square("d5")), 0);
        Due.same("pieces behind it", board.look(5), 31);
    }

    /** "Which is empty": a piece that stands on PASSING is taken itself, and the pawn behind it stays. */
    static void promise8TakesWhatStandsOnPassing() {
        making("8/8/3n4/3pP3/8/8/8/8 w - d6 0 9", "e5d6", 8, "8/8/3P4/3p4/8/8/8/8 b - - 0 9");
        making("8/8/3p4/3pP3/8/8/8/8 w - d6 0 9", "e5d6", 7, "8/8/3P4/3p4/8/8/8/8 b - - 0 9");
        making("8/8/8/8/3pP3/4Q3/8/8 b - e3 0 9", "d4e3", 5, "8/8/8/8/4P3/4p3/8/8 w - - 0 10");
    }

    /** "By an ATTACK": a pawn that steps straight to PASSING takes nothing. */
    static void promise8StepToPassingTakesNothing() {
        making("8/8/8/3P4/8/8/8/8 w - d6 4 9", "d5d6", 0, "8/8/3P4/8/8/8/8/8 b - - 0 9");
        making("8/8/8/8/3p4/8/8/8 b - d3 4 9", "d4d3", 0, "8/8/8/8/8/3p4/8/8 w - - 0 10");
        making("8/8/8/8/8/8/3P4/8 w - d4 4 9", "d2d4", 0, "8/8/8/8/3P4/8/8/8 b - - 0 9");
        making("8/8/8/8/8/8/3P4/8 w - d3 4 9", "d2d4", 0, "8/8/8/8/3P4/8/8/8 b - - 0 9");
    }

    /** "A pawn that comes to PASSING": another piece that comes there takes nothing. */
    static void promise8OthersTakeNothingInPassing() {
        making("8/8/8/3p4/1B6/8/8/8 w - d6 4 9", "b4d6", 0, "8/8/3B4/3p4/8/8/8/8 b - - 5 9");
        making("8/8/8/2Kp4/8/8/8/8 w - d6 4 9", "c5d6", 0, "8/8/3K4/3p4/8/8/8/8 b - - 5 9");
        making("8/8/8/2Qp4/8/8/8/8 w - d6 4 9", "c5d6", 0, "8/8/3Q4/3p4/8/8/8/8 b - - 5 9");
        making("8/8/8/3p4/2N5/8/8/8 w - d6 4 9", "c4d6", 0, "8/8/3N4/3p4/8/8/8/8 b - - 5 9");
        making("8/8/8/8/4P3/r7/8/8 b - e3 4 9", "a3e3", 0, "8/8/8/8/4P3/4r3/8/8 w - - 5 10");
        making("8/8/8/3p4/8/8/8/3Q4 w - d6 4 9", "d1d5", 7, "8/8/8/3Q4/8/8/8/8 b - - 0 9");
    }

    /** In passing and to the last rank in one, where PASSING has been set up so. */
    static void promise8TakesInPassingOnLastRank() {
        making("8/Pp6/8/8/8/8/8/8 w - b8 3 9", "a7b8n", 7, "1N6/8/8/8/8/8/8/8 b - - 0 9");
        making("8/6pP/8/8/8/8/8/8 w q g8 3 9", "h7g8q", 7, "6Q1/8/8/8/8/8/8/8 b q - 0 9");
        making("8/8/8/8/8/8/pP6/8 b - b1 3 9", "a2b1r", 1, "8/8/8/8/8/8/8/1r6 w - - 0 10");
        making("8/8/8/8/8/8/Pp6/8 b - a1 3 9", "b2a1b", 1, "8/8/8/8/8/8/8/b7 w - - 0 10");
    }

    // ---- RIGHTS

    /** "RIGHTS: those of a side go when its king moves", from wherever; those of the other stay. */
    static void promise8RightsGoWithTheKing() {
        making(ROOKS, "e1e2", 0, "r3k2r/8/8/8/8/8/4K3/R6R b kq - 6 6");
        making(toBlack(ROOKS), "e8d7", 0, "r6r/3k4/8/8/8/8/8/R3K2R w KQ - 6 7");
        making("8/8/8/3K4/8/8/8/8 w KQkq - 0 1", "d5d6", 0, "8/8/3K4/8/8/8/8/8 b kq - 1 1");
        making("8/8/8/3k4/8/8/8/8 b KQkq - 0 1", "d5d6", 0, "8/8/3k4/8/8/8/8/8 w KQ - 1 2");
        making("8/8/8/8/8/8/4n3/4K3 w KQkq - 0 1", "e1e2", 8, "8/8/8/8/8/8/4K3/8 b kq - 0 1");
    }

    /** "When its king moves": what else moves from e1 or e8, or comes there, costs none. */
    static void promise8RightsStayForOthers() {
        making("8/8/8/8/8/8/8/4R3 w KQkq - 0 1", "e1e2", 0, "8/8/8/8/8/8/4R3/8 b KQkq - 1 1");
        making("4q3/8/8/8/8/8/8/8 b KQkq - 0 1", "e8e1", 0, "8/8/8/8/8/8/8/4q3 w KQkq - 1 2");
        making("8/8/8/8/8/8/8/2R5 w KQkq - 0 1", "c1d1", 0, "8/8/8/8/8/8/8/3R4 b KQkq - 1 1");
        making("8/8/8/8/8/8/8/1R6 w KQkq - 0 1", "b1g1", 0, "8/8/8/8/8/8/8/6R1 b KQkq - 1 1");
        making("8/8/8/8/8/8/P6P/8 w KQkq - 0 1", "h2h3", 0, "8/8/8/8/8/7P/P7/8 b KQkq - 0 1");
    }

    /** "A right goes when a rook's corner is from": each corner its own right, whatever goes. */
    static void promise8RightGoesFromCorner() {
        making(ROOKS, "a1a2", 0, "r3k2r/8/8/8/8/8/R7/4K2R b Kkq - 6 6");
        making(ROOKS, "h1h2", 0, "r3k2r/8/8/8/8/8/7R/R3K3 b Qkq - 6 6");
        making(toBlack(ROOKS), "a8b8", 0, "1r2k2r/8/8/8/8/8/8/R3K2R w KQk - 6 7");
        making(toBlack(ROOKS), "h8g8", 0, "r3k1r1/8/8/8/8/8/8/R3K2R w KQq - 6 7");
        making("8/8/8/8/8/8/8/N7 w KQkq - 0 1", "a1b3", 0, "8/8/8/8/8/1N6/8/8 b Kkq - 1 1");
        making("8/8/8/8/8/8/8/7P w KQkq - 0 1", "h1h2", 0, "8/8/8/8/8/8/7P/8 b Qkq - 0 1");
        making("7n/8/8/8/8/8/8/8 b KQkq - 0 1", "h8g6", 0, "8/8/6n1/8/8/8/8/8 w KQq - 1 2");
        making("B7/8/8/8/8/8/8/8 w KQkq - 0 1", "a8b7", 0, "8/1B6/8/8/8/8/8/8 b KQk - 1 1");
    }

    /** "A right goes when a rook's corner is to": whatever comes, taking something or not. */
    static void promise8RightGoesToCorner() {
        making("8/8/8/8/8/2b5/8/8 b KQkq - 0 1", "c3a1", 0, "8/8/8/8/8/8/8/b7 w Kkq - 1 2");
        making("8/8/8/8/8/6n1/8/8 b KQkq - 0 1", "g3h1", 0, "8/8/8/8/8/8/8/7n w Qkq - 1 2");
        making("8/7P/8/8/8/8/8/8 w KQkq - 0 1", "h7h8q", 0, "7Q/8/8/8/8/8/8/8 b KQq - 0 1");
        making("r7/1P6/8/8/8/8/8/8 w KQkq - 0 1", "b7a8n", 10, "N7/8/8/8/8/8/8/8 b KQk - 0 1");
        making("8/8/8/8/8/8/7R/8 w KQkq - 0 1", "h2h1", 0, "8/8/8/8/8/8/8/7R b Qkq - 1 1");
    }

    /** "From or to": both at once, and a corner beside a king's move. */
    static void promise8RightsGoAtBothEnds() {
        making(ROOKS, "a1a8", 10, "R3k2r/8/8/8/8/8/8/4K2R b Kk - 0 6");
        making(ROOKS, "h1h8", 10, "r3k2R/8/8/8/8/8/8/R3K3 b Qq - 0 6");
        making(toBlack(ROOKS), "a8a1", 4, "4k2r/8/8/8/8/8/8/r3K2R w Kk - 0 7");
        making(toBlack(ROOKS), "h8h1", 4, "r3k3/8/8/8/8/8/8/R3K2r w Qq - 0 7");
        making("8/8/8/8/8/8/8/B7 w KQkq - 0 1", "a1h8", 0, "7B/8/8/8/8/8/8/8 b Kq - 1 1");
        making("8/8/8/8/8/8/8/R7 w KQkq - 0 1", "a1h1", 0, "8/8/8/8/8/8/8/7R b kq - 1 1");
        making("8/6K1/8/8/8/8/8/8 w KQkq - 0 1", "g7h8", 0, "7K/8/8/8/8/8/8/8 b q - 1 1");
        making("8/8/8/8/8/8/1k6/8 b KQkq - 0 1", "b2a1", 0, "8/8/8/8/8/8/8/k7 w K - 1 2");
    }

    /** "A right goes": one that is not there stays away, and no other comes. */
    static void promise8RightsThatAreNotThere() {
        making("r3k2r/8/8/8/8/8/8/R3K2R w kq - 5 6", "e1e2", 0, "r3k2r/8/8/8/8/8/4K3/R6R b kq - 6 6");
        making("r3k2r/8/8/8/8/8/8/R3K2R w Kk - 5 6", "a1a8", 10, "R3k2r/8/8/8/8/8/8/4K2R b Kk - 0 6");
        making("r3k2r/8/8/8/8/8/8/R3K2R w - - 5 6", "h1h8", 10, "r3k2R/8/8/8/8/8/8/R3K3 b - - 0 6");
    }

    // ---- PASSING

    /** "PASSING is the square that a pawn passed that went two ranks, if a pawn of the other SIDE ATTACKS it". */
    static void promise8PassingIsSet() {
        making("8/8/8/8/1p6/8/2P5/8 w - - 0 1", "c2c4", 0, "8/8/8/8/1pP5/8/8/8 b - c3 0 1");
        making("8/8/8/8/3p4/8/2P5/8 w - - 0 1", "c2c4", 0, "8/8/8/8/2Pp4/8/8/8 b - c3 0 1");
        making("8/2p5/8/1P6/8/8/8/8 b - - 0 1", "c7c5", 0, "8/8/8/1Pp5/8/8/8/8 w - c6 0 2");
        making("8/2p5/8/3P4/8/8/8/8 b - - 0 1", "c7c5", 0, "8/8/8/2pP4/8/8/8/8 w - c6 0 2");
        making("8/8/8/8/1p6/8/P7/8 w - - 0 1", "a2a4", 0, "8/8/8/8/Pp6/8/8/8 b - a3 0 1");
        making("8/8/8/8/6p1/8/7P/8 w - - 0 1", "h2h4", 0, "8/8/8/8/6pP/8/8/8 b - h3 0 1");
        making("8/p7/8/1P6/8/8/8/8 b - - 0 1", "a7a5", 0, "8/8/8/pP6/8/8/8/8 w - a6 0 2");
        making("8/7p/8/6P1/8/8/8/8 b - - 0 1", "h7h5", 0, "8/8/8/6Pp/8/8/8/8 w - h6 0 2");
    }

    /** "Else NONE": nothing attacks the square, or what does is no pawn, or not of the other SIDE. */
    static void promise8PassingIsNoneUnattacked() {
        making("8/8/8/8/8/8/2P5/8 w - a6 0 1", "c2c4", 0, "8/8/8/8/2P5/8/8/8 b - - 0 1");
        making("8/8/8/8/1P1P4/8/2P5/8 w - - 0 1", "c2c4", 0, "8/8/8/8/1PPP4/8/8/8 b - - 0 1");
        making("8/8/8/8/1n1q4/8/2P5/8 w - - 0 1", "c2c4", 0, "8/8/8/8/1nPq4/8/8/8 b - - 0 1");
        making("8/8/8/8/1k6/8/2P5/8 w - - 0 1", "c2c4", 0, "8/8/8/8/1kP5/8/8/8 b - - 0 1");
        making("8/8/8/8/8/1p1p4/2P5/8 w - - 0 1", "c2c4", 0, "8/8/8/8/2P5/1p1p4/8/8 b - - 0 1");
        making("8/8/8/8/8/8/1pPp4/8 w - - 0 1", "c2c4", 0, "8/8/8/8/2P5/8/1p1p4/8 b - - 0 1");
        making("8/8/8/1p1p4/p3p3/8/2P5/8 w - - 0 1", "c2c4", 0, "8/8/8/1p1p4/p1P1p3/8/8/8 b - - 0 1");
        making("8/2p5/8/1p1p4/8/8/8/8 b - - 0 1", "c7c5", 0, "8/8/8/1ppp4/8/8/8/8 w - - 0 2");
        making("8/2p5/1P1P4/8/8/8/8/8 b - - 0 1", "c7c5", 0, "8/8/1P1P4/2p5/8/8/8/8 w - - 0 2");
        making(START, "e2e4", 0, "rnbqkbnr/pppppppp/8/8/4P3/8/PPPP1PPP/RNBQKBNR b KQkq - 0 1");
    }

    /** "ATTACKS it": the file beside h is not a. */
    static void promise8PassingOverNoEdge() {
        making("8/8/8/7p/8/8/P7/8 w - - 0 1", "a2a4", 0, "8/8/8/7p/P7/8/8/8 b - - 0 1");
        making("8/8/8/8/7p/8/P7/8 w - - 0 1", "a2a4", 0, "8/8/8/8/P6p/8/8/8 b - - 0 1");
        making("8/8/8/8/8/7p/P7/8 w - - 0 1", "a2a4", 0, "8/8/8/8/P7/7p/8/8 b - - 0 1");
        making("8/8/8/8/p7/8/7P/8 w - - 0 1", "h2h4", 0, "8/8/8/8/p6P/8/8/8 b - - 0 1");
        making("8/8/8/p7/8/8/7P/8 w - - 0 1", "h2h4", 0, "8/8/8/p7/7P/8/8/8 b - - 0 1");
        making("8/7p/8/P7/8/8/8/8 b - - 0 1", "h7h5", 0, "8/8/8/P6p/8/8/8/8 w - - 0 2");
        making("8/7p/P7/8/8/8/8/8 b - - 0 1", "h7h5", 0, "8/8/P7/7p/8/8/8/8 w - - 0 2");
        making("8/p7/8/8/7P/8/8/8 b - - 0 1", "a7a5", 0, "8/8/8/p7/7P/8/8/8 w - - 0 2");
        making("8/p7/8/7P/8/8/8/8 b - - 0 1", "a7a5", 0, "8/8/8/p6P/8/8/8/8 w - - 0 2");
    }

    /** "(Whether it may move or not)": a pawn that its king needs where it is counts too. */
    static void promise8PassingByPinnedPawn() {
        making("8/8/8/8/k1p4R/8/1P6/8 w - - 0 1", "b2b4", 0, "8/8/8/8/kPp4R/8/8/8 b - b3 0 1");
        making("2k5/8/8/8/2p5/8/1P6/2R5 w - - 0 1", "b2b4", 0, "2k5/8/8/8/1Pp5/8/8/2R5 b - b3 0 1");
        making("2r5/1p6/8/2P5/8/8/8/2K5 b - - 0 1", "b7b5", 0, "2r5/8/8/1pP5/8/8/8/2K5 w - b6 0 2");
    }

    /** "Else NONE": one rank, a taking, another piece's two ranks, castling; what was set up before is gone. */
    static void promise8PassingIsNoneBehindOtherMoves() {
        making("8/8/8/8/1p6/8/2P5/8 w - h6 0 1", "c2c3", 0, "8/8/8/8/1p6/2P5/8/8 b - - 0 1");
        making("8/8/8/8/1p6/3n4/2P5/8 w - h6 0 1", "c2d3", 8, "8/8/8/8/1p6/3P4/8/8 b - - 0 1");
        making("8/8/8/8/1p6/8/2R5/8 w - h6 0 1", "c2c4", 0, "8/8/8/8/1pR5/8/8/8 b - - 1 1");
        making("8/8/8/8/8/8/1p6/R3K3 w Q c1 0 1", "e1c1", 0, "8/8/8/8/8/8/1p6/2KR4 b - - 1 1");
        Board board = begun("e2e4", "a7a6", "e4e5", "d7d5", "b1c3");
        Due.same("PASSING is gone", board.look(2), Board.NONE);
        Due.no("and cannot be taken a move later", board.fits(Chess.move("e5d6")));
    }

    // ---- clocks

    /** "HALF is 0 if a pawn moved or something was taken". */
    static void promise8HalfIsZero() {
        making("4k3/8/8/8/8/8/P7/4K3 w - - 50 3", "a2a3", 0, "4k3/8/8/8/8/P7/8/4K3 b - - 0 3");
        making("4k3/8/8/8/8/8/P7/4K3 w - - 50 3", "a2a4", 0, "4k3/8/8/8/P7/8/8/4K3 b - - 0 3");
        making("4k3/8/8/3q4/8/2N5/8/4K3 w - - 8 3", "c3d5", 11, "4k3/8/8/3N4/8/8/8/4K3 b - - 0 3");
        making("4k3/8/8/3q4/4P3/8/8/4K3 w - - 8 3", "e4d5", 11, "4k3/8/8/3P4/8/8/8/4K3 b - - 0 3");
        making("4k3/8/8/3q4/4P3/8/8/4K3 b - - 9999 3", "d5e4", 1, "4k3/8/8/8/4q3/8/8/4K3 w - - 0 4");
        making("8/P7/8/8/8/8/8/8 w - - 9999 3", "a7a8q", 0, "Q7/8/8/8/8/8/8/8 b - - 0 3");
    }

    /** "Else 1 more": castling too, and past 9999, which is a bound of clocks alone. */
    static void promise8HalfIsOneMore() {
        making("4k3/8/8/3q4/8/2N5/8/4K3 b - - 8 3", "d5d1", 0, "4k3/8/8/8/8/2N5/8/3qK3 w - - 9 4");
        making("8/8/8/8/8/8/8/R3K3 w Q - 99 3", "e1c1", 0, "8/8/8/8/8/8/8/2KR4 b - - 100 3");
        Board board = Chess.board("4k3/8/8/8/8/8/8/4K3 w - - 9998 1");
        play(board, "e1e2");
        Due.same("HALF 9999", board.look(3), 9999);
        play(board, "e8e7");
        Due.same("HALF over 9999", board.look(3), 10000);
        play(board, "e2e1");
        Due.same("HALF over 9999 again", board.look(3), 10001);
    }

    /** "FULL grows by 1 behind black's": not behind white's, and past 9999. */
    static void promise8FullGrowsBehindBlack() {
        Board board = Chess.board("4k3/8/8/8/8/8/8/4K3 w - - 0 9998");
        int[] due = {9998, 9999, 9999, 10000, 10000, 10001};
        String[] moves = {"e1e2", "e8e7", "e2e1", "e7e8", "e1e2", "e8e7"};
        for (int i = 0; i < moves.length; i++) {
            play(board, moves[i]);
            Due.same("FULL behind " + moves[i], board.look(4), due[i]);
        }
        Board black = Chess.board("4k3/8/8/8/8/8/8/4K3 b - - 0 1");
        play(black, "e8e7");
        Due.same("FULL behind black's first", black.look(4), 2);
    }

    // ---- what make refuses

    /** "IllegalArgumentException if it is none"; "what throws changes nothing". */
    static void promise8NoMove() {
        Board empty = new Board();
        refuses("make(0) on an empty board", ARGUMENT, empty, () -> empty.make(0));
        Board board = begun("e2e4");
        for (String move : new String[] {"e4e5", "e7e4", "e8e7", "a8a6", "d2d4", "e7e5q", "e8g8"}) {
            refuses("make " + move, ARGUMENT, board, () -> board.make(Chess.move(move)));
        }
        for (int wrong : NOTHING) {
            refuses("make(" + wrong + ")", ARGUMENT, board, () -> board.make(wrong));
        }
        refuses("make(-1)", ARGUMENT, board, () -> board.make(-1));
        Due.same("unmake() behind them", board.unmake(), Chess.move("e2e4"));
        isAtTheBeginning("taken back", board);
    }

    /** "At most 600 moves can be taken back": all that an object's 512 calls can hold are made. */
    static void promise8AsManyMovesAsCalls() {
        Board board = begun();
        for (int i = 0; i < 509; i++) {
            Due.same("make " + i, board.make(Chess.move(CIRCLE[i % 4])), 0);
        }
        Due.same("look(6)", board.look(6), 509);
        Due.same("move(508)", board.move(508), Chess.move(CIRCLE[0]));
    }

    /**
     * "IllegalStateException if 600 moves can be taken back": the 600th is made, the next not. It takes more
     * calls than the document promises answers to; the class keeps its bound all the same.
     */
    static void promise8The601stMove() {
        Board board = begun();
        for (int i = 0; i < 599; i++) {
            board.make(Chess.move(CIRCLE[i % 4]));
        }
        Due.same("the 600th", board.make(Chess.move(CIRCLE[3])), 0);
        Due.same("look(6)", board.look(6), 600);
        Due.same("move(599)", board.move(599), Chess.move("f6g8"));
        Due.same("move(600)", board.move(600), Board.NONE);
        Due.yes("fits g1f3", board.fits(Chess.move("g1f3")));
        refuses("the 601st", STATE, board, () -> board.make(Chess.move("g1f3")));
        board.unmake();
        Due.same("the 600th again", board.make(Chess.move("f6g8")), 0);
        refuses("the 601st again", STATE, board, () -> board.make(Chess.move("g1f3")));
        board.clocks(0, 1);
        Due.same("the first behind a setting up", board.make(Chess.move("g1f3")), 0);
    }

    /** "Of several exceptions the first one listed is thrown": what is no MOVE, where 600 can be taken back. */
    static void promise8FirstListedIsThrown() {
        Board board = begun();
        for (int i = 0; i < 600; i++) {
            board.make(Chess.move(CIRCLE[i % 4]));
        }
        refuses("no move, and the 601st", ARGUMENT, board, () -> board.make(Chess.move("g1g3")));
        refuses("no move, and the 601st", ARGUMENT, board, () -> board.make(-1));
        refuses("the 601st", STATE, board, () -> board.make(Chess.move("g1f3")));
    }

    // ---- Promise 9: unmake

    /** "IllegalStateException if there is none": at first, and behind each setting up. */
    static void promise9NoneAtFirst() {
        Board board = new Board();
        refuses("unmake() at first", STATE, board, board::unmake);
        board.begin();
        refuses("unmake() behind begin()", STATE, board, board::unmake);
        refuses("unmake() twice", STATE, board, board::unmake);
        play(board, "e2e4");
        board.put(28, 0);
        refuses("unmake() behind put", STATE, board, board::unmake);
        play(board, "e7e5");
        board.state(0, 0, Board.NONE);
        refuses("unmake() behind state", STATE, board, board::unmake);
        play(board, "d2d4");
        board.clocks(0, 1);
        refuses("unmake() behind clocks", STATE, board, board::unmake);
        play(board, "d7d5");
        board.clear();
        refuses("unmake() behind clear", STATE, board, board::unmake);
    }

    /** "IllegalStateException if there is none": one more than were made. */
    static void promise9OneMoreThanMade() {
        Board board = begun("e2e4", "e7e5");
        Due.same("unmake()", board.unmake(), Chess.move("e7e5"));
        Due.same("unmake()", board.unmake(), Chess.move("e2e4"));
        refuses("unmake() of none", STATE, board, board::unmake);
        refuses("unmake() of none again", STATE, board, board::unmake);
        isAtTheBeginning("taken back", board);
        play(board, "d2d4");
        Due.same("unmake() of a new one", board.unmake(), Chess.move("d2d4"));
        refuses("unmake() of none once more", STATE, board, board::unmake);
    }

    /** "The latest move that was made (and was not taken back) is taken back: it". */
    static void promise9LatestThatWasNotTakenBack() {
        Board board = begun("d2d4", "d7d5");
        Due.same("unmake()", board.unmake(), Chess.move("d7d5"));
        play(board, "g8f6");
        Due.same("move(1) is the later one", board.move(1), Chess.move("g8f6"));
        Due.same("unmake() of the later one", board.unmake(), Chess.move("g8f6"));
        Due.same("unmake() of the first", board.unmake(), Chess.move("d2d4"));
        isAtTheBeginning("taken back", board);
    }

    /** "Is taken back": all is as it was, step by step, of every kind of move in one game. */
    static void promise9AllIsAsBefore() {
        String[] moves = {"e2e4", "d7d5", "e4d5", "c7c5", "d5c6", "g8f6", "c6b7", "c8d7", "b7a8n", "d8a5",
            "g1f3", "e7e6", "f1e2", "f8e7", "e1g1", "e8g8", "d2d4", "a5a2", "a1a2", "d7b5", "e2b5"};
        String[] before = new String[moves.length];
        Board there = begun();
        for (int i = 0; i < moves.length; i++) {
            before[i] = seen(there);
            play(there, moves[i]);
        }
        Board back = begun(moves);
        for (int i = moves.length - 1; i >= 0; i--) {
            Due.same("unmake() of " + moves[i], back.unmake(), Chess.move(moves[i]));
            unchanged("unmake() of " + moves[i], before[i], back);
        }
        refuses("unmake() of none", STATE, back, back::unmake);
    }

    /** "Is taken back": SIDE, RIGHTS, PASSING and both clocks too, however they were set up. */
    static void promise9StateAndClocksAreAsBefore() {
        Board white = Chess.board("r3k2r/8/8/8/8/8/8/R3K2R w KQkq a8 9999 9999");
        play(white, "a1a8");
        looks("a1a8", white, 1, 5, Board.NONE, 0, 9999, 5, 1);
        white.unmake();
        looks("a1a8 taken back", white, 0, 15, 56, 9999, 9999, 6, 0);
        Board black = Chess.board("r3k2r/8/8/8/8/8/8/R3K2R b Qk h1 0 9999");
        play(black, "e8g8");
        looks("e8g8", black, 0, 2, Board.NONE, 1, 10000, 6, 1);
        black.unmake();
        looks("e8g8 taken back", black, 1, 6, 7, 0, 9999, 6, 0);
        Due.same("the king is back", black.at(60), 12);
        Due.same("the rook is back", black.at(63), 10);
        Due.same("nothing is between", black.at(61) + black.at(62), 0);
    }

    /** "Is taken back": a piece that a pawn became is the pawn again. */
    static void promise9PawnIsAPawnAgain() {
        for (int kind = 2; kind <= 5; kind++) {
            Board white = alone(48, 1);
            white.put(57, 11);
            white.make(Chess.move(48, 57, kind));
            white.unmake();
            Due.same("white's pawn as " + kind, white.at(48), 1);
            Due.same("what it took", white.at(57), 11);
            Board black = alone(15, 7);
            black.make(Chess.move(15, 7, kind));
            black.unmake();
            Due.same("black's pawn as " + kind, black.at(15), 7);
            Due.same("where it was", black.at(7), 0);
        }
    }

    /** "Is taken back": a pawn taken in passing stands behind PASSING again, and can be taken so again. */
    static void promise9PawnTakenInPassing() {
        Board board = begun("e2e4", "a7a6", "e4e5", "d7d5", "e5d6");
        Due.same("unmake()", board.unmake(), Chess.move("e5d6"));
        Due.same("d5", board.at(Chess.square("d5")), 7);
        Due.same("e5", board.at(Chess.square("e5")), 1);
        Due.same("d6", board.at(Chess.square("d6")), 0);
        Due.same("PASSING", board.look(2), Chess.square("d6"));
        Due.same("e5d6 again", board.make(Chess.move("e5d6")), 7);
    }

    /** "Is taken back": as many as an object's 512 calls can make and take back. */
    static void promise9AsManyMovesAsCalls() {
        Board board = begun();
        for (int i = 0; i < 255; i++) {
            board.make(Chess.move(CIRCLE[i % 4]));
        }
        for (int i = 254; i >= 0; i--) {
            Due.same("unmake " + i, board.unmake(), Chess.move(CIRCLE[i % 4]));
        }
        Due.same("key()", board.key(), START_KEY);
    }

    /** "At most 600 moves can be taken back": 600 can (by more calls than the document promises answers to). */
    static void promise9TakesBack600() {
        Board board = begun();
        for (int i = 0; i < 600; i++) {
            board.make(Chess.move(CIRCLE[i % 4]));
        }
        for (int i = 599; i >= 0; i--) {
            Due.same("unmake " + i, board.unmake(), Chess.move(CIRCLE[i % 4]));
        }
        refuses("unmake of none", STATE, board, board::unmake);
        isAtTheBeginning("taken back", board);
    }
}
