import java.util.Set;
import java.util.TreeSet;

/** Promise 7: what is a MOVE of the position; a test a sentence. */
public final class FitsTest extends BoardTest {
    private static final String ROOKS = "r3k2r/8/8/8/8/8/8/R3K2R w KQkq -";

    public static void main(String[] args) {
        runAll(FitsTest.class, 7, 7);
    }

    private static String toBlack(String fen) {
        return fen.replace(" w ", " b ");
    }

    // ---- the number

    /** "A MOVE is from + 64 * to + 4096 * kind": the 20 of the beginning, for either side. */
    static void promise7MovesOfTheBeginning() {
        fittingAreJust(START,
                "a2a3", "b2b3", "c2c3", "d2d3", "e2e3", "f2f3", "g2g3", "h2h3",
                "a2a4", "b2b4", "c2c4", "d2d4", "e2e4", "f2f4", "g2g4", "h2h4",
                "b1a3", "b1c3", "g1f3", "g1h3");
        fittingAreJust(toBlack(START),
                "a7a6", "b7b6", "c7c6", "d7d6", "e7e6", "f7f6", "g7g6", "h7h6",
                "a7a5", "b7b5", "c7c5", "d7d5", "e7e5", "f7f5", "g7g5", "h7h5",
                "b8a6", "b8c6", "g8f6", "g8h6");
    }

    /** "A MOVE is from + 64 * to + 4096 * kind": a number too large, with one more bit, is none. */
    static void promise7NumberTooLarge() {
        for (int bit = 12; bit < 31; bit++) {
            unfit(START, "e2e4 and bit " + bit, Chess.move("e2e4") | 1 << bit);
        }
        for (int bit = 15; bit < 31; bit++) {
            unfit("8/P7/8/8/8/8/8/8 w - -", "a7a8q and bit " + bit, Chess.move("a7a8q") | 1 << bit);
        }
        for (int move : new int[] {1 << 18, 24576, 32768, Integer.MAX_VALUE, Integer.MAX_VALUE - 4095}) {
            unfit(START, move + "", move);
        }
    }

    /** "A MOVE is from + 64 * to + 4096 * kind": a number below 0 is none, whatever its lower bits are. */
    static void promise7NumberBelowZero() {
        int e2e4 = Chess.move("e2e4");
        int[] moves = {-1, -64, -4096, -e2e4, e2e4 - 4096, e2e4 - 65536, e2e4 | 1 << 31, Integer.MIN_VALUE};
        for (int move : moves) {
            unfit(START, move + "", move);
        }
        unfit("8/P7/8/8/8/8/8/8 w - -", "a7a8q and bit 31", Chess.move("a7a8q") | 1 << 31);
        unfit("N7/8/8/8/8/8/8/8 w - -", "a8b6 and bit 31", Chess.move("a8b6") | 1 << 31);
    }

    // ---- from and to

    /** "On from is a piece of the SIDE to move": not on an empty square, nor anywhere on an empty board. */
    static void promise7FromIsEmpty() {
        unfit(START, "e3e4", "a3a4", "h6h5", "d4d5");
        fittingAreJust("8/8/8/8/8/8/8/8 w KQkq e6");
        fittingAreJust("8/8/8/8/8/8/8/8 b KQkq e3");
    }

    /** "On from is a piece of the SIDE to move": not one of the other SIDE. */
    static void promise7FromIsOfTheOtherSide() {
        unfit(START, "e7e5", "e7e6", "b8c6", "g8h6");
        unfit(toBlack(START), "e2e4", "e2e3", "b1c3", "g1h3");
        fittingAreJust("rnbqk3/8/8/p7/8/8/8/8 w KQkq -");
        fittingAreJust("8/8/8/8/P7/8/8/RNBQK3 b KQkq -");
    }

    /** "On to none of that SIDE": by each piece. */
    static void promise7ToIsOfTheSide() {
        unfit("8/8/8/2PPP3/2PKP3/2PPP3/8/8 w - -",
                "d4d5", "d4c5", "d4e5", "d4c4", "d4e4", "d4c3", "d4d3", "d4e3", "d4d4");
        unfit("8/8/2P5/8/3N4/8/8/8 w - -", "d4c6", "d4d4");
        unfit("8/8/1P6/8/3B4/8/8/8 w - -", "d4b6", "d4d4");
        unfit("8/3P4/8/8/3R4/8/8/8 w - -", "d4d7", "d4d4");
        unfit("8/3P4/8/8/3Q4/8/1P6/8 w - -", "d4d7", "d4b2", "d4d4");
        unfit("8/8/8/2NNN3/3P4/8/8/8 w - -", "d4d5", "d4c5", "d4e5", "d4d4");
        unfit("8/8/8/3p4/2nnn3/8/8/8 b - -", "d5d4", "d5c4", "d5e4", "d5d5");
        unfit("8/8/8/3q4/8/3k4/8/8 b - -", "d5d3", "d5d2");
        unfit("8/8/8/8/8/8/8/KK6 w - -", "a1b1", "b1a1");
    }

    /** "And no king": none of the other SIDE is taken, by no piece. */
    static void promise7ToIsKing() {
        unfit("8/8/2k5/8/3N4/8/8/8 w - -", "d4c6");
        unfit("8/8/1k6/8/3B4/8/8/8 w - -", "d4b6", "d4a7");
        unfit("8/3k4/8/8/3R4/8/8/8 w - -", "d4d7", "d4d8");
        unfit("8/3k4/8/8/3Q4/8/1k6/8 w - -", "d4d7", "d4b2");
        unfit("8/8/8/3k4/3K4/8/8/8 w - -", "d4d5");
        unfit("8/8/8/2k1k3/3P4/8/8/8 w - -", "d4c5", "d4e5");
        unfit("1k6/P7/8/8/8/8/8/8 w - -", "a7b8q", "a7b8n", "a7b8");
        unfit("8/8/8/3n4/8/2K5/8/8 b - -", "d5c3");
        unfit("8/8/8/3p4/2K1K3/8/8/8 b - -", "d5c4", "d5e4");
        unfit("8/8/8/3r4/8/3K4/8/8 b - -", "d5d3");
        unfit("8/8/8/8/8/8/8/kK6 b - -", "a1b1");
    }

    // ---- kind

    /** "Kind is 2 .. 5 if a pawn comes to rank 8 (white) or 1 (black)": not 0, 1, 6 or more. */
    static void promise7KindOfPawnOnLastRank() {
        fittingAreJust("1n6/P7/8/8/8/8/8/8 w - -", "a7a8x", "a7b8x");
        fittingAreJust("8/8/8/8/8/8/7p/6N1 b - -", "h2h1x", "h2g1x");
        for (int kind : new int[] {0, 1, 6, 7, 8, 10, 11, 12, 13, 18, 1 << 18, (1 << 19) - 1}) {
            unfit("8/P7/8/8/8/8/8/8 w - -", "a7a8 of kind " + kind, Chess.move("a7a8") + 4096 * kind);
            unfit("8/8/8/8/8/8/p7/8 b - -", "a2a1 of kind " + kind, Chess.move("a2a1") + 4096 * kind);
        }
    }

    /** "Else 0": a pawn on another rank becomes nothing; rank 1 is not white's last, nor 8 black's. */
    static void promise7KindOfPawnElsewhere() {
        for (int kind = 1; kind <= 6; kind++) {
            unfit(START, "e2e4 of kind " + kind, Chess.move("e2e4") + 4096 * kind);
            unfit("8/8/P7/8/8/8/8/8 w - -", "a6a7 of kind " + kind, Chess.move("a6a7") + 4096 * kind);
            unfit("8/8/8/8/8/p7/8/8 b - -", "a3a2 of kind " + kind, Chess.move("a3a2") + 4096 * kind);
        }
        fittingAreJust("8/8/8/8/8/8/8/P7 w - -", "a1a2");
        fittingAreJust("p7/8/8/8/8/8/8/8 b - -", "a8a7");
        fittingAreJust("8/8/P7/8/8/8/8/8 w - -", "a6a7");
        fittingAreJust("8/8/8/8/8/p7/8/8 b - -", "a3a2");
    }

    /** "Else 0": no other piece becomes anything, on the last rank either. */
    static void promise7KindOfOtherPieces() {
        String[] white = {"e7g8", "h6f8", "h7h8", "h7h8", "h7h8"};
        String[] black = {"e2g1", "h3f1", "h2h1", "h2h1", "h2h1"};
        for (int type = 2; type <= 6; type++) {
            kindIsZero(type, Chess.move(white[type - 2]));
            kindIsZero(type + 6, Chess.move(black[type - 2]));
        }
    }

    private static void kindIsZero(int piece, int move) {
        Board board = alone(move % 64, piece);
        for (int kind = 0; kind <= 7; kind++) {
            Due.same(piece + " comes to the last rank as " + kind,
                    board.fits(move + 4096 * kind) ? 1 : 0, kind == 0 ? 1 : 0);
        }
    }

    // ---- pieces that go as they attack

    /** "And the piece goes so": each piece alone, from each square to each, over no edge of the board. */
    static void promise7EachPieceFromEachSquare() {
        for (int piece = 1; piece <= 12; piece++) {
            for (int from = 0; from < 64; from++) {
                Board board = alone(from, piece);
                for (int to = 0; to < 64; to++) {
                    for (int kind = 0; kind < 7; kind++) {
                        int move = Chess.move(from, to, kind);
                        boolean due = goesAlone(piece, from, to) && becomes(piece, to, kind);
                        if (board.fits(move) != due) {
                            Due.tell("fits of " + piece + ", " + Chess.text(move) + ", due is " + due);
                        }
                    }
                }
            }
        }
    }

    private static boolean goesAlone(int piece, int from, int to) {
        int right = to % 8 - from % 8;
        int up = to / 8 - from / 8;
        boolean straight = right == 0 ^ up == 0;
        boolean slanting = right * right == up * up && right != 0;
        switch ((piece - 1) % 6) {
            case 0:
                int on = piece == 1 ? up : -up;
                int rank = piece == 1 ? from / 8 : 7 - from / 8;
                return right == 0 && (on == 1 || on == 2 && rank == 1);
            case 1:
                return right * right + up * up == 5;
            case 2:
                return slanting;
            case 3:
                return straight;
            case 4:
                return straight || slanting;
            default:
                return from != to && right * right <= 1 && up * up <= 1;
        }
    }

    private static boolean becomes(int piece, int to, int kind) {
        boolean last = piece == 1 && to / 8 == 7 || piece == 7 && to / 8 == 0;
        return last ? kind >= 2 && kind <= 5 : kind == 0;
    }

    /** "Bishop, rook, queen: as far as the first piece, which belongs to them". */
    static void promise7AsFarAsTheFirstPiece() {
        fittingAreJust("8/8/1p3p2/8/3B4/8/1P3P2/8 w - -",
                "d4c5", "d4b6", "d4e5", "d4f6", "d4c3", "d4e3", "b2b3", "b2b4", "f2f3", "f2f4");
        fittingAreJust("8/3p4/8/8/1p1R1p2/8/3P4/8 w - -",
                "d4d5", "d4d6", "d4d7", "d4c4", "d4b4", "d4e4", "d4f4", "d4d3", "d2d3");
        fittingAreJust("8/8/8/2nnn3/2NqN3/2NNN3/8/8 b - -",
                "d4c4", "d4e4", "d4c3", "d4d3", "d4e3",
                "c5a6", "c5b7", "c5d7", "c5e6", "c5a4", "c5b3", "c5d3", "c5e4",
                "d5b6", "d5c7", "d5e7", "d5f6", "d5b4", "d5f4", "d5c3", "d5e3",
                "e5c6", "e5d7", "e5f7", "e5g6", "e5g4", "e5f3", "e5d3", "e5c4");
        fitting("p6p/8/8/8/8/8/8/Q6p w - -", "a1a8", "a1h8", "a1h1");
        unfit("8/8/8/8/8/pp6/p7/Qp6 w - -", "a1a3", "a1c1", "a1a8");
        fitting("8/8/8/8/8/pp6/p7/Qp6 w - -", "a1a2", "a1b1", "a1b2", "a1h8");
    }

    /** "Knight: two and one", over whatever stands between. */
    static void promise7KnightOverOthers() {
        fittingAreJust("8/8/8/8/8/ppp5/ppp5/Npp5 w - -", "a1b3", "a1c2");
        fittingAreJust("5PPn/5PPP/5PPP/8/8/8/8/8 b - -", "h8f7", "h8g6");
    }

    /** Whether the own king is left in check is no part of a MOVE. */
    static void promise7KingLeftInCheck() {
        fitting("4r1k1/8/8/8/8/8/4B3/4K3 w - -", "e2d3", "e1d1", "e2h5");
        fitting("4r1k1/8/8/8/8/8/8/4K3 w - -", "e1e2");
    }

    // ---- castling

    /** "CASTLING, two files to the side": not one more, nor to another rank. */
    static void promise7CastlingTwoFiles() {
        fitting(ROOKS, "e1g1", "e1c1");
        fitting(toBlack(ROOKS), "e8g8", "e8c8");
        unfit(ROOKS, "e1h1", "e1b1", "e1a1", "e1e3", "e1g2", "e1g3", "e1c2", "e1c3", "e1e1");
        unfit(toBlack(ROOKS), "e8h8", "e8b8", "e8a8", "e8e6", "e8g7", "e8g6", "e8c7", "e8c6", "e8e8");
        fittingAreJust("8/8/8/8/8/8/8/R3K2R w KQ -",
                "e1d1", "e1f1", "e1d2", "e1e2", "e1f2", "e1g1", "e1c1", "a1b1", "a1c1", "a1d1", "h1g1", "h1f1",
                "a1a2", "a1a3", "a1a4", "a1a5", "a1a6", "a1a7", "a1a8",
                "h1h2", "h1h3", "h1h4", "h1h5", "h1h6", "h1h7", "h1h8");
    }

    /** "From its own square (e1, e8)": from no other one, not from the other king's either. */
    static void promise7CastlingOwnSquare() {
        unfit("8/8/8/8/8/8/8/R2K3R w KQkq -", "d1f1", "d1b1");
        unfit("8/8/8/8/8/8/8/R4K1R w KQkq -", "f1h1", "f1d1");
        unfit("8/8/8/8/8/8/4K3/R6R w KQkq -", "e2g2", "e2c2", "e2g1", "e2c1");
        unfit("8/8/8/8/8/R3K2R/8/8 w KQkq -", "e3g3", "e3c3");
        unfit("r6r/4k3/8/8/8/8/8/8 b KQkq -", "e7g7", "e7c7", "e7g8", "e7c8");
        unfit("R3K2R/8/8/8/8/8/8/8 w KQkq -", "e8g8", "e8c8");
        unfit("r3K2r/8/8/8/8/8/8/8 w KQkq -", "e8g8", "e8c8");
        unfit("8/8/8/8/8/8/8/r3k2r b KQkq -", "e1g1", "e1c1");
        unfit("8/8/8/8/8/8/8/R3k2R b KQkq -", "e1g1", "e1c1");
    }

    /** "A king": no other piece goes so from e1 or e8. */
    static void promise7CastlingIsTheKings() {
        unfit("8/8/8/8/8/8/8/R3N2R w KQkq -", "e1g1", "e1c1");
        unfit("8/8/8/8/8/8/8/R3B2R w KQkq -", "e1g1", "e1c1");
        unfit("8/8/8/8/8/8/8/R3P2R w KQkq -", "e1g1", "e1c1");
        unfit("r3n2r/8/8/8/8/8/8/8 b KQkq -", "e8g8", "e8c8");
        unfit("8/8/8/8/8/8/8/R6R w KQkq -", "e1g1", "e1c1");
    }

    /** "If the RIGHT for it is there": each of the 16 RIGHTS, for each of the four. */
    static void promise7CastlingRight() {
        String[] moves = {"e1g1", "e1c1", "e8g8", "e8c8"};
        for (int rights = 0; rights <= 15; rights++) {
            for (int i = 0; i < 4; i++) {
                Board board = Chess.board(ROOKS);
                board.state(i / 2, rights, Board.NONE);
                Due.same(moves[i] + " with RIGHTS " + rights,
                        board.fits(Chess.move(moves[i])) ? 1 : 0, rights >> i & 1);
            }
        }
    }

    /** "The rook stands on its corner": not nowhere, not beside it, not another piece, not the other SIDE's. */
    static void promise7CastlingRookOnItsCorner() {
        unfit("4k3/8/8/8/8/8/8/4K3 w KQkq -", "e1g1", "e1c1");
        unfit("4k3/8/8/8/8/8/8/4K3 b KQkq -", "e8g8", "e8c8");
        unfit("r3k2r/8/8/8/8/8/8/1R2K1R1 w KQkq -", "e1g1", "e1c1");
        unfit("r3k2r/8/8/8/8/8/R6R/4K3 w KQkq -", "e1g1", "e1c1");
        unfit("1r2k1r1/8/8/8/8/8/8/R3K2R b KQkq -", "e8g8", "e8c8");
        fitting("8/8/8/8/8/8/8/4K2R w KQkq -", "e1g1");
        unfit("8/8/8/8/8/8/8/4K2R w KQkq -", "e1c1");
        fitting("8/8/8/8/8/8/8/R3K3 w KQkq -", "e1c1");
        unfit("8/8/8/8/8/8/8/R3K3 w KQkq -", "e1g1");
        for (char letter : "PNBQKpnbrqk".toCharArray()) {
            unfit("8/8/8/8/8/8/8/" + letter + "3K2" + letter + " w KQkq -", "e1g1", "e1c1");
        }
        for (char letter : "PNBRQKpnbqk".toCharArray()) {
            unfit(letter + "3k2" + letter + "/8/8/8/8/8/8/8 b KQkq -", "e8g8", "e8c8");
        }
    }

    /** "And all squares between them are empty": b1 and b8 too, of pieces of either SIDE. */
    static void promise7CastlingSquaresBetween() {
        for (String square : new String[] {"b1", "c1", "d1", "f1", "g1", "b8", "c8", "d8", "f8", "g8"}) {
            for (int piece = 1; piece <= 12; piece++) {
                Board board = Chess.board(square.endsWith("1") ? ROOKS : toBlack(ROOKS));
                board.put(Chess.square(square), piece);
                boolean kingSide = square.charAt(0) > 'e';
                int home = square.endsWith("1") ? 4 : 60;
                Due.same("king side with " + piece + " on " + square,
                        board.fits(Chess.move(home, home + 2, 0)) ? 1 : 0, kingSide ? 0 : 1);
                Due.same("queen side with " + piece + " on " + square,
                        board.fits(Chess.move(home, home - 2, 0)) ? 1 : 0, kingSide ? 1 : 0);
            }
        }
    }

    /** "(Attacks do not matter here)": not on the king, nor on a square that it passes, nor where it comes. */
    static void promise7CastlingUnderAttack() {
        for (String rank : new String[] {"r7", "1r6", "2r5", "3r4", "4r3", "5r2", "6r1", "7r"}) {
            fitting("8/8/8/8/8/" + rank + "/8/R3K2R w KQ -", "e1g1", "e1c1");
            fitting("r3k2r/8/" + rank.toUpperCase() + "/8/8/8/8/8 b kq -", "e8g8", "e8c8");
        }
        fitting("4k3/8/8/8/4q3/8/8/R3K2R w KQ -", "e1g1", "e1c1");
        fitting("r3k2r/8/8/8/8/8/8/2RRQRR1 b kq -", "e8g8", "e8c8");
    }

    // ---- pawns

    /** "A pawn one rank on (white up) to an empty square": not to a piece of either SIDE, nor back or aside. */
    static void promise7PawnOneRankOn() {
        fittingAreJust("8/8/8/8/3P4/8/8/8 w - -", "d4d5");
        fittingAreJust("8/8/8/8/3p4/8/8/8 b - -", "d4d3");
        fittingAreJust("8/8/8/3p4/3P4/8/8/8 w - -");
        fittingAreJust("8/8/8/3p4/3P4/8/8/8 b - -");
        fittingAreJust("8/8/8/8/8/P7/P7/8 w - -", "a3a4");
        fittingAreJust("8/p7/p7/8/8/8/8/8 b - -", "a6a5");
        fittingAreJust("k7/P7/8/8/8/8/8/8 w - -");
        fittingAreJust("8/8/8/8/8/8/p7/K7 b - -");
    }

    /** "From its second rank (2, 7) two ranks": from no other one, and no three. */
    static void promise7PawnTwoRanksFromSecondRank() {
        for (int rank = 0; rank < 6; rank++) {
            int white = 8 * rank + 1;
            int black = 63 - white;
            Due.same("white two ranks from " + Chess.name(white),
                    alone(white, 1).fits(Chess.move(white, white + 16, 0)) ? 1 : 0, rank == 1 ? 1 : 0);
            Due.same("black two ranks from " + Chess.name(black),
                    alone(black, 7).fits(Chess.move(black, black - 16, 0)) ? 1 : 0, rank == 1 ? 1 : 0);
        }
        fittingAreJust("8/7P/8/8/8/8/8/8 w - -", "h7h8x");
        fittingAreJust("8/8/8/8/8/8/p7/8 b - -", "a2a1x");
        fittingAreJust("8/8/8/8/8/8/P6P/8 w - -", "a2a3", "a2a4", "h2h3", "h2h4");
        fittingAreJust("8/p6p/8/8/8/8/8/8 b - -", "a7a6", "a7a5", "h7h6", "h7h5");
    }

    /** "Two ranks over an empty square to an empty one". */
    static void promise7PawnTwoRanksOverEmptyToEmpty() {
        for (char letter : "NBRQKnbrqk".toCharArray()) {
            unfit("8/8/8/8/8/4" + letter + "3/4P3/8 w - -", "e2e4", "e2e3");
            unfit("8/8/8/8/4" + letter + "3/8/4P3/8 w - -", "e2e4");
            fitting("8/8/8/8/4" + letter + "3/8/4P3/8 w - -", "e2e3");
            unfit("8/4p3/4" + letter + "3/8/8/8/8/8 b - -", "e7e5", "e7e6");
            unfit("8/4p3/8/4" + letter + "3/8/8/8/8 b - -", "e7e5");
            fitting("8/4p3/8/4" + letter + "3/8/8/8/8 b - -", "e7e6");
        }
    }

    /** "As it ATTACKS to a square with a piece of the other SIDE": not to an empty one, an own piece, straight on. */
    static void promise7PawnTakes() {
        fittingAreJust("8/8/8/2nnn3/3P4/2n1n3/8/8 w - -", "d4c5", "d4e5");
        fittingAreJust("8/8/2N1N3/3p4/2NNN3/8/8/8 b - -", "d5c4", "d5e4");
        fittingAreJust("8/8/8/2P1P3/3P4/8/8/8 w - -", "d4d5", "c5c6", "e5e6");
        for (int piece = 7; piece <= 11; piece++) {
            Board board = alone(27, 1);
            board.put(34, piece);
            Due.yes("a pawn takes " + piece, board.fits(Chess.move("d4c5")));
        }
    }

    /** "A rank on and a file beside": beside the files a and h there is none. */
    static void promise7PawnTakesOverNoEdge() {
        fittingAreJust("8/8/8/n6n/P6P/n6n/8/8 w - -");
        fittingAreJust("8/8/N6N/p6p/N6N/8/8/8 b - -");
        unfit("8/8/8/8/n6P/8/8/8 w - -", "h4a4");
        unfit("8/8/n7/8/7P/8/8/8 w - -", "h4a6");
        unfit("8/8/8/n7/7P/8/8/8 w - a6", "h4a5", "h4a6");
        unfit("8/8/8/8/P6n/8/8/8 w - -", "a4h4");
        unfit("8/8/8/7n/P7/8/8/8 w - -", "a4h5");
    }

    /** A pawn that stands on its last rank (where it can be set up) goes nowhere, and none leaves the board. */
    static void promise7PawnBeyondTheBoard() {
        fittingAreJust("P6P/8/8/8/8/8/8/8 w - -");
        fittingAreJust("8/8/8/8/8/8/8/p6p b - -");
        fittingAreJust("P6P/8/8/8/8/8/8/8 w - a1");
        fittingAreJust("8/8/8/8/8/8/8/p6p b - h8");
    }

    // ---- in passing

    /** "Or to PASSING": to no other empty square, and to none if PASSING is NONE. */
    static void promise7PassingIsThatSquare() {
        fittingAreJust("8/8/8/3pP3/8/8/8/8 w - d6", "e5d6", "e5e6");
        fittingAreJust("8/8/8/3pP3/8/8/8/8 w - -", "e5e6");
        fittingAreJust("8/8/8/3pPp2/8/8/8/8 w - f6", "e5f6", "e5e6");
        fittingAreJust("8/8/8/3pP3/8/8/8/8 w - f6", "e5e6");
        fittingAreJust("8/8/8/8/3pP3/8/8/8 b - e3", "d4e3", "d4d3");
        fittingAreJust("8/8/8/8/3pP3/8/8/8 b - -", "d4d3");
        fittingAreJust("8/8/8/PpP5/8/8/8/8 w - b6", "a5b6", "c5b6", "a5a6", "c5c6");
        fittingAreJust("8/8/8/8/5pPp/8/8/8 b - g3", "f4g3", "h4g3", "f4f3", "h4h3");
    }

    /** "As it ATTACKS .. to PASSING": not from afar, nor from the side, nor over an edge. */
    static void promise7PassingByAttackAlone() {
        fittingAreJust("8/8/8/1P1p1P2/3P4/8/8/8 w - d6", "b5b6", "f5f6");
        fittingAreJust("8/8/3P4/3p4/2P5/8/8/8 w - e6", "c4c5", "c4d5", "d6d7");
        fittingAreJust("8/8/8/p6P/7P/8/8/8 w - a6", "h5h6");
        fittingAreJust("8/8/8/8/P6p/P7/8/8 b - a3", "h4h3");
        fittingAreJust("8/8/7P/P6p/8/8/8/8 w - h6", "h6h7", "a5a6");
    }

    /** "If that is empty": what stands on PASSING is taken itself or not at all. */
    static void promise7PassingIsEmpty() {
        unfit("8/8/3N4/3pP3/8/8/8/8 w - d6", "e5d6");
        unfit("8/8/3P4/3pP3/8/8/8/8 w - d6", "e5d6");
        unfit("8/8/3k4/3pP3/8/8/8/8 w - d6", "e5d6");
        unfit("8/8/3K4/3pP3/8/8/8/8 w - d6", "e5d6");
        fitting("8/8/3n4/3pP3/8/8/8/8 w - d6", "e5d6");
        fitting("8/8/3n4/4P3/8/8/8/8 w - d6", "e5d6");
        unfit("8/8/8/8/3pP3/4n3/8/8 b - e3", "d4e3");
        unfit("8/8/8/8/3pP3/4K3/8/8 b - e3", "d4e3");
        fitting("8/8/8/8/3pP3/4N3/8/8 b - e3", "d4e3");
    }

    /** "And a pawn of the other SIDE stands behind it (a rank back)": nothing else, and nowhere else. */
    static void promise7PassingPawnBehind() {
        for (char letter : "PNBRQKnbrqk1".toCharArray()) {
            unfit("8/8/8/3" + letter + "P3/8/8/8/8 w - d6", "e5d6");
        }
        for (char letter : "NBRQKpnbrqk1".toCharArray()) {
            unfit("8/8/8/8/3p" + letter + "3/8/8/8 b - e3", "d4e3");
        }
        unfit("8/3p4/8/4P3/8/8/8/8 w - d6", "e5d6");
        unfit("8/8/8/4P3/3p4/8/8/8 w - d6", "e5d6");
        unfit("8/8/8/2p1P3/8/8/8/8 w - d6", "e5d6");
        unfit("8/8/8/8/3p4/8/4P3/8 b - e3", "d4e3");
        unfit("8/8/8/4P3/3p4/8/8/8 b - e3", "d4e3");
        unfit("8/8/8/8/3p1P2/8/8/8 b - e3", "d4e3");
    }

    /** "PASSING is a square that can be taken in passing": each square where it can be set up, for both SIDES. */
    static void promise7PassingOnEachSquare() {
        for (int passing = 0; passing < 64; passing++) {
            for (int side = 0; side <= 1; side++) {
                int back = side == 0 ? -8 : 8;
                int behind = passing + back;
                if (behind >= 0 && behind < 64) {
                    passingOn(passing, behind, side);
                }
            }
        }
    }

    private static void passingOn(int passing, int behind, int side) {
        Board board = new Board();
        board.put(behind, side == 0 ? 7 : 1);
        Set<Integer> due = new TreeSet<>();
        for (int aside = -1; aside <= 1; aside += 2) {
            int file = behind % 8 + aside;
            if (file >= 0 && file < 8) {
                board.put(behind + aside, side == 0 ? 1 : 7);
                due.add(behind + aside);
            }
        }
        board.state(side, 0, passing);
        boolean last = passing / 8 == (side == 0 ? 7 : 0);
        for (int from = 0; from < 64; from++) {
            for (int kind = 0; kind < 6; kind++) {
                int move = Chess.move(from, passing, kind);
                boolean want = due.contains(from) && (last ? kind >= 2 : kind == 0);
                if (board.fits(move) != want) {
                    Due.tell("fits " + Chess.text(move) + " in passing, SIDE " + side + ", due is " + want);
                }
            }
        }
    }

    /** "Behind it (a rank back)": a PASSING on the first rank has no square behind it, and none goes there. */
    static void promise7PassingWithNothingBehind() {
        fittingAreJust("8/8/8/8/8/8/8/P1P5 w - b1", "a1a2", "c1c2");
        fittingAreJust("p1p5/8/8/8/8/8/8/8 b - b8", "a8a7", "c8c7");
        fittingAreJust("8/8/8/8/8/8/P7/1p6 w - b1", "a2a3", "a2a4");
        fittingAreJust("8/8/8/8/8/8/8/K1P5 w - b1", "a1b1", "a1a2", "a1b2", "c1c2");
    }

    /** "To PASSING" is a pawn's way: a knight, king or queen comes there only as it goes anyhow. */
    static void promise7PassingForOtherPieces() {
        unfit("8/8/8/3pN3/8/8/8/8 w - d6", "e5d6");
        unfit("8/8/8/3pR3/8/8/8/8 w - d6", "e5d6");
        fitting("8/8/8/3pK3/8/8/8/8 w - d6", "e5d6");
        fitting("8/8/8/3pB3/8/8/8/8 w - d6", "e5d6");
        fitting("8/8/8/3P4/8/8/8/8 w - d6", "d5d6");
    }

    // ---- what fits answers

    /** "What answers false changes nothing", nor does what answers true. */
    static void promise7FitsChangesNothing() {
        Board board = begun("e2e4", "d7d5");
        String before = seen(board);
        for (String move : new String[] {"e4d5", "e4e5", "e4e6", "d5e4", "e1g1", "a3a4", "e4d5q"}) {
            board.fits(Chess.move(move));
            unchanged("fits " + move, before, board);
        }
        for (int move : new int[] {-1, Integer.MIN_VALUE, Integer.MAX_VALUE, 0, 4096, 1 << 20}) {
            Due.no("fits(" + move + ")", board.fits(move));
            unchanged("fits(" + move + ")", before, board);
        }
        Due.same("unmake() behind them", board.unmake(), Chess.move("d7d5"));
    }

    /** "A MOVE of the position": of the one that moves have led to, and of the one before when they are taken back. */
    static void promise7FitsFollowsThePosition() {
        Board board = begun();
        Due.yes("e2e4 at the beginning", board.fits(Chess.move("e2e4")));
        play(board, "e2e4");
        Due.no("e2e4 behind it", board.fits(Chess.move("e2e4")));
        Due.no("e4e5 behind it", board.fits(Chess.move("e4e5")));
        Due.yes("e7e5 behind it", board.fits(Chess.move("e7e5")));
        board.unmake();
        Due.yes("e2e4 again", board.fits(Chess.move("e2e4")));
        Due.no("e7e5 again", board.fits(Chess.move("e7e5")));
    }
}
