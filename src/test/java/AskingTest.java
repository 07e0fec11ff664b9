/** Promises 10 to 16: at, where, attackers, check, key, move, look; a test a sentence. */
public final class AskingTest extends BoardTest {
    public static void main(String[] args) {
        runAll(AskingTest.class, 10, 16);
    }

    private static void attacked(String fen, String square, int side, String... by) {
        Due.same(square + " by " + side + " in " + fen,
                Chess.board(fen).attackers(Chess.square(square), side), Chess.bits(by));
    }

    // ---- Promise 10: at

    /** "The piece on a square": the first and the last square, and an empty one. */
    static void promise10FirstAndLastSquare() {
        Board board = Chess.board("7k/8/8/8/8/8/8/R7 w - -");
        Due.same("at(0)", board.at(0), 4);
        Due.same("at(63)", board.at(63), 12);
        for (int square = 1; square < 63; square++) {
            Due.same("at(" + square + ")", board.at(square), 0);
        }
    }

    /** "The piece on a square": where moves have brought it, and where it is behind they are taken back. */
    static void promise10BehindMoves() {
        Board board = begun("e2e4");
        Due.same("e2", board.at(12), 0);
        Due.same("e4", board.at(28), 1);
        board.unmake();
        Due.same("e2 taken back", board.at(12), 1);
        Due.same("e4 taken back", board.at(28), 0);
    }

    /** "IndexOutOfBoundsException if there is none such": -1 and 64 are none. */
    static void promise10NoSuchSquare() {
        Board board = begun("e2e4");
        refuses("at(-1)", INDEX, board, () -> board.at(-1));
        refuses("at(64)", INDEX, board, () -> board.at(64));
        for (int wrong : NOTHING) {
            refuses("at(" + wrong + ")", INDEX, board, () -> board.at(wrong));
        }
        Due.same("unmake() behind them", board.unmake(), Chess.move("e2e4"));
    }

    // ---- Promise 11: where

    /** "All squares with a piece, as bits of a long": each piece, and the bits 0 and 63. */
    static void promise11EachPiece() {
        Board board = begun();
        long[] due = {0x0000FFFFFFFF0000L, 0xFF00L, 0x42L, 0x24L, 0x81L, 0x08L, 0x10L,
            0xFFL << 48, 0x42L << 56, 0x24L << 56, 0x81L << 56, 0x08L << 56, 0x10L << 56};
        for (int piece = 0; piece <= 12; piece++) {
            Due.same("where(" + piece + ")", board.where(piece), due[piece]);
        }
        for (int square = 0; square < 64; square++) {
            Due.same("a king on " + square, alone(square, 12).where(12), 1L << square);
        }
    }

    /** "(0: those without one)": all 64 of an empty board, 32 of a full one. */
    static void promise11SquaresWithoutOne() {
        Due.same("where(0) of an empty board", new Board().where(0), -1L);
        Due.same("where(0) with one on a1", alone(0, 1).where(0), -2L);
        Due.same("where(0) with one on h8", alone(63, 7).where(0), Long.MAX_VALUE);
        Board full = new Board();
        for (int square = 1; square < 64; square += 2) {
            full.put(square, 12);
        }
        Due.same("where(0) of a full board", full.where(0), 0x5555555555555555L);
        Due.same("where(12) of a full board", full.where(12), 0xAAAAAAAAAAAAAAAAL);
    }

    /** A piece that stands nowhere has no square. */
    static void promise11PieceThatStandsNowhere() {
        Board empty = new Board();
        for (int piece = 1; piece <= 12; piece++) {
            Due.same("where(" + piece + ") of an empty board", empty.where(piece), 0);
        }
        Board board = begun("e2e4", "d7d5", "e4d5", "d8d5");
        Due.same("black's queen", board.where(11), Chess.bits("d5"));
        play(board, "b1c3", "a7a6", "c3d5");
        Due.same("black's queen, taken", board.where(11), 0);
        Due.same("white's knights", board.where(2), Chess.bits("d5", "g1"));
        board.unmake();
        Due.same("black's queen, taken back", board.where(11), Chess.bits("d5"));
    }

    /** "0 if there is no such piece": -1 and 13 are none. */
    static void promise11NoSuchPiece() {
        for (Board board : new Board[] {new Board(), begun()}) {
            String before = seen(board);
            Due.same("where(-1)", board.where(-1), 0);
            Due.same("where(13)", board.where(13), 0);
            for (int wrong : NOTHING) {
                Due.same("where(" + wrong + ")", board.where(wrong), 0);
            }
            unchanged("where of no piece", before, board);
        }
    }

    // ---- Promise 12: attackers

    /** "All squares with pieces of a side that ATTACK a square, as bits": several, of one side each. */
    static void promise12AllOfASide() {
        String fen = "3r3k/8/1b3n2/2p1p3/3Q4/2P1P3/1B3N2/3R3K w - -";
        attacked(fen, "d4", 0, "c3", "e3", "d1");
        attacked(fen, "d4", 1, "c5", "e5", "d8");
        attacked(fen, "c5", 0, "d4");
        attacked(fen, "c5", 1, "b6");
        attacked(fen, "e4", 0, "d4", "f2");
        attacked(fen, "e4", 1, "f6");
        attacked(fen, "h8", 0);
        attacked(fen, "h8", 1, "d8");
        attacked(fen, "g2", 0, "h1");
        attacked(fen, "g7", 1, "h8");
        attacked(fen, "h1", 0, "d1", "f2");
        attacked(toBlackToMove(fen), "d4", 0, "c3", "e3", "d1");
    }

    private static String toBlackToMove(String fen) {
        return fen.replace(" w ", " b ");
    }

    /** "All squares": none on an empty board, and at most sixteen, from every side. */
    static void promise12NoneAndMost() {
        Board empty = new Board();
        for (int square = 0; square < 64; square++) {
            Due.same("by white", empty.attackers(square, 0), 0);
            Due.same("by black", empty.attackers(square, 1), 0);
        }
        String fen = "8/3Q2Q1/2N1N3/1NQQQN2/2Q1Q3/1NQQQN2/2N1N3/8 w - -";
        attacked(fen, "d4", 0, "c6", "e6", "b5", "c5", "d5", "e5", "f5", "c4", "e4", "b3", "c3", "d3", "e3", "f3",
                "c2", "e2");
        attacked(fen, "d4", 1);
    }

    /** "ATTACKS of a piece": each piece alone, from each square to each, over no edge of the board. */
    static void promise12EachPieceFromEachSquare() {
        for (int piece = 1; piece <= 12; piece++) {
            int side = piece > 6 ? 1 : 0;
            for (int from = 0; from < 64; from++) {
                Board board = alone(from, piece);
                for (int to = 0; to < 64; to++) {
                    String what = piece + " from " + from + " to " + to;
                    Due.same(what, board.attackers(to, side), attacksAlone(piece, from, to) ? 1L << from : 0);
                    Due.same(what + ", the other side", board.attackers(to, 1 - side), 0);
                }
            }
        }
    }

    private static boolean attacksAlone(int piece, int from, int to) {
        int right = to % 8 - from % 8;
        int up = to / 8 - from / 8;
        boolean straight = right == 0 ^ up == 0;
        boolean slanting = right * right == up * up && right != 0;
        switch ((piece - 1) % 6) {
            case 0:
                return right * right == 1 && up == (piece == 1 ? 1 : -1);
            case 1:
                return right * right + up * up == 5;
            case 2:
                return slanting;
            case 3:
                return straight;
            case 4:
                return straight || slanting;
            default:
                return from != to && right * right <= 1 && up * up <= 1;
        }
    }

    /** "King: the squares a step away in eight directions": castling is no ATTACK. */
    static void promise12CastlingIsNoAttack() {
        String fen = "r3k2r/8/8/8/8/8/8/R3K2R w KQkq -";
        attacked(fen, "g1", 0, "h1");
        attacked(fen, "c1", 0, "a1");
        attacked(fen, "g8", 1, "h8");
        attacked(fen, "f1", 0, "e1", "h1");
    }

    /** "As far as the first piece, which belongs to them": of either side; what is behind it does not. */
    static void promise12AsFarAsTheFirstPiece() {
        for (char first : "PNBRQKpnbrqk".toCharArray()) {
            Board board = Chess.board("8/3N4/8/3" + first + "4/8/8/3R4/8 w - -");
            for (String square : new String[] {"d3", "d4", "d5"}) {
                Due.yes(square + ", " + first + " on d5", isAttackedFromD2(board, square));
            }
            for (String square : new String[] {"d6", "d7", "d8"}) {
                Due.no(square + " behind " + first, isAttackedFromD2(board, square));
            }
        }
        attacked("7k/8/8/4n3/8/8/8/B7 w - -", "e5", 0, "a1");
        attacked("7k/8/8/4n3/8/8/8/B7 w - -", "f6", 0);
        attacked("7k/8/8/4n3/8/8/8/B7 w - -", "h8", 0);
        attacked("8/8/8/8/8/8/8/QQ5q w - -", "b1", 0, "a1");
        attacked("8/8/8/8/8/8/8/QQ5q w - -", "c1", 0, "b1");
        attacked("8/8/8/8/8/8/8/QQ5q w - -", "h1", 0, "b1");
        attacked("8/8/8/8/8/8/8/QQ5q w - -", "b1", 1, "h1");
        attacked("8/8/8/8/8/8/8/QQ5q w - -", "a1", 1);
    }

    private static boolean isAttackedFromD2(Board board, String square) {
        return (board.attackers(Chess.square(square), 0) & Chess.bits("d2")) != 0;
    }

    /** "Knight: two and one": over whatever stands between. */
    static void promise12KnightOverOthers() {
        attacked("8/8/8/8/8/1pp5/pp6/Npp5 w - -", "b3", 0, "a1");
        attacked("8/8/8/8/8/1pp5/pp6/Npp5 w - -", "c2", 0, "a1");
        attacked("8/8/8/8/8/1pp5/pp6/Npp5 w - -", "b2", 0);
    }

    /** "Pawn: a rank on and a file beside": whatever stands there, not straight on, not back, over no edge. */
    static void promise12Pawns() {
        String fen = "8/8/8/p6p/P6P/8/8/8 w - b6";
        attacked(fen, "b5", 0, "a4");
        attacked(fen, "g5", 0, "h4");
        attacked(fen, "h5", 0);
        attacked(fen, "a5", 0);
        attacked(fen, "b4", 1, "a5");
        attacked(fen, "g4", 1, "h5");
        attacked(fen, "h6", 0);
        attacked(fen, "a3", 1);
        attacked(fen, "b6", 0);
        attacked(fen, "b6", 1);
        attacked("8/8/8/2P1k3/3P4/8/8/8 w - -", "c5", 0, "d4");
        attacked("8/8/8/2P1k3/3P4/8/8/8 w - -", "e5", 0, "d4");
        attacked("8/8/8/3P4/2P1P3/8/8/8 w - -", "d5", 0, "c4", "e4");
    }

    /** A pawn on its last rank (where it can be set up) attacks nothing, one on its first a square of the second. */
    static void promise12PawnsAtTheEnds() {
        Board white = alone(59, 1);
        Board black = alone(3, 7);
        for (int square = 0; square < 64; square++) {
            Due.same("a white pawn on d8", white.attackers(square, 0), 0);
            Due.same("a black pawn on d1", black.attackers(square, 1), 0);
        }
        attacked("8/8/8/8/8/8/8/3P4 w - -", "c2", 0, "d1");
        attacked("3p4/8/8/8/8/8/8/8 w - -", "e7", 1, "d8");
    }

    /** Whether a piece may move, or whose turn it is, is no part of ATTACKS. */
    static void promise12PinnedPiecesAttack() {
        attacked("4r3/8/8/8/8/8/4N3/4K3 b - -", "d4", 0, "e2");
        attacked("4r3/8/8/8/8/8/4N3/4K3 w - -", "e2", 1, "e8");
    }

    /** IndexOutOfBoundsException, as for at: -1 and 64 are no squares, 0 and 63 are. */
    static void promise12NoSuchSquare() {
        Board board = begun("e2e4");
        Due.same("attackers(0, 0)", board.attackers(0, 0), 0);
        Due.same("attackers(63, 1)", board.attackers(63, 1), 0);
        refuses("attackers(-1, 0)", INDEX, board, () -> board.attackers(-1, 0));
        refuses("attackers(64, 0)", INDEX, board, () -> board.attackers(64, 0));
        for (int wrong : NOTHING) {
            refuses("attackers(" + wrong + ", 1)", INDEX, board, () -> board.attackers(wrong, 1));
        }
        Due.same("unmake() behind them", board.unmake(), Chess.move("e2e4"));
    }

    /** "IllegalArgumentException if there is no such side": -1 and 2 are none. */
    static void promise12NoSuchSide() {
        Board board = begun("e2e4");
        refuses("attackers(0, -1)", ARGUMENT, board, () -> board.attackers(0, -1));
        refuses("attackers(63, 2)", ARGUMENT, board, () -> board.attackers(63, 2));
        for (int wrong : NOTHING) {
            refuses("attackers(0, " + wrong + ")", ARGUMENT, board, () -> board.attackers(0, wrong));
        }
        Due.same("unmake() behind them", board.unmake(), Chess.move("e2e4"));
    }

    /** "Of several exceptions the first one listed is thrown." */
    static void promise12FirstListedIsThrown() {
        Board board = begun();
        refuses("attackers(64, 2)", INDEX, board, () -> board.attackers(64, 2));
        refuses("attackers(-1, -1)", INDEX, board, () -> board.attackers(-1, -1));
        refuses("attackers(64, -1)", INDEX, board, () -> board.attackers(64, -1));
        refuses("attackers(-1, 2)", INDEX, board, () -> board.attackers(-1, 2));
    }

    // ---- Promise 13: check

    private static void checks(String fen, boolean white, boolean black) {
        Board board = Chess.board(fen);
        Due.same("check(0) in " + fen, board.check(0) ? 1 : 0, white ? 1 : 0);
        Due.same("check(1) in " + fen, board.check(1) ? 1 : 0, black ? 1 : 0);
    }

    /** "Whether a king of a side stands on a square that the other one ATTACKS": by each piece, whoever moves. */
    static void promise13ByEachPiece() {
        checks("4k3/8/8/8/8/8/8/4K3 w - -", false, false);
        checks("4k3/8/8/8/4r3/8/8/4K3 w - -", true, false);
        checks("4k3/8/8/8/4R3/8/8/4K3 w - -", false, true);
        checks("4k3/8/8/8/4R3/8/8/4K3 b - -", false, true);
        checks("8/8/2n5/8/3K4/8/8/8 w - -", true, false);
        checks("8/8/1b6/8/3K4/8/8/8 w - -", true, false);
        checks("8/8/1q6/8/3K4/8/8/8 b - -", true, false);
        checks("8/8/8/3k4/4K3/8/8/8 b - -", true, true);
        checks("8/8/8/3k4/4P3/8/3p4/4K3 b - -", true, true);
        checks("8/8/4P3/3k4/8/8/4K3/3p4 b - -", false, false);
    }

    /** "That the other one ATTACKS": not its own side, and nothing behind another piece. */
    static void promise13NotByTheOwnOrBehind() {
        checks("4k3/4r3/8/8/8/8/4R3/4K3 w - -", false, false);
        checks("4k3/8/8/4p3/4r3/8/4P3/4K3 w - -", false, false);
        checks("8/8/8/8/8/8/8/K1N4r w - -", false, false);
        checks("8/8/8/8/8/8/7r/K7 w - -", false, false);
    }

    /** "A king": of several, any one is enough, the first or the last. */
    static void promise13SeveralKings() {
        checks("K6K/8/8/8/8/8/7r/K7 w - -", true, false);
        checks("K6K/8/8/8/8/8/1r6/K7 w - -", false, false);
        checks("7K/8/8/8/8/8/8/K5r1 w - -", true, false);
        checks("k7/8/8/8/8/8/8/k5R1 w - -", false, true);
        checks("k7/7R/8/8/8/8/8/7k w - -", false, true);
        checks("K6K/8/8/8/8/8/8/8 w - -", false, false);
        checks("KK6/8/8/8/8/8/8/8 w - -", false, false);
    }

    /** "A king of a side": false if it has none. */
    static void promise13NoKing() {
        checks("8/8/8/8/8/8/8/8 w - -", false, false);
        checks("8/8/8/8/8/8/8/r7 w - -", false, false);
        checks("8/8/8/8/8/8/8/rQ5q w - -", false, false);
        checks("8/8/8/8/8/8/8/Rk6 w - -", false, true);
    }

    /** "False if there is no such side": -1 and 2 are none. */
    static void promise13NoSuchSide() {
        Board board = Chess.board("4k3/4R3/8/8/4r3/8/8/4K3 w - -");
        Due.yes("check(0)", board.check(0));
        Due.yes("check(1)", board.check(1));
        String before = seen(board);
        Due.no("check(2)", board.check(2));
        Due.no("check(-1)", board.check(-1));
        for (int wrong : NOTHING) {
            Due.no("check(" + wrong + ")", board.check(wrong));
        }
        unchanged("check of no side", before, board);
    }

    // ---- Promise 14: key

    private static long m(long x) {
        x = x + 0x9E3779B97F4A7C15L;
        x = (x ^ (x >>> 30)) * 0xBF58476D1CE4E5B9L;
        x = (x ^ (x >>> 27)) * 0x94D049BB133111EBL;
        return x ^ (x >>> 31);
    }

    /** "The KEY": of an empty board, of the beginning, and behind a move. */
    static void promise14KnownKeys() {
        Due.same("key() at first", new Board().key(), EMPTY_KEY);
        Due.same("key() at first by its parts", EMPTY_KEY, m(900) ^ m(999));
        Due.same("key() behind begin()", begun().key(), START_KEY);
        Due.same("key() behind e2e4", begun("e2e4").key(), 35574102465425814L);
    }

    /** "M(64 * p + s) for each piece p on a square s": each piece, on the first and last squares too. */
    static void promise14PiecesInTheKey() {
        for (int piece = 0; piece <= 12; piece++) {
            Board board = new Board();
            for (int square = 0; square < 64; square++) {
                board.put(square, piece);
                Due.same(piece + " on " + square, board.key() ^ EMPTY_KEY, piece == 0 ? 0 : m(64 * piece + square));
                board.put(square, 0);
            }
        }
    }

    /** "M(64 * p + s) for each piece": all 32 of a full board. */
    static void promise14FullBoardInTheKey() {
        Board board = new Board();
        long due = EMPTY_KEY;
        for (int i = 0; i < 32; i++) {
            board.put(63 - 2 * i, 1 + i % 12);
            due ^= m(64 * (1 + i % 12) + 63 - 2 * i);
            Due.same((i + 1) + " pieces", board.key(), due);
        }
    }

    /** "M(900 + RIGHTS)": each of the 16, 0 too. */
    static void promise14RightsInTheKey() {
        Board board = new Board();
        for (int rights = 0; rights <= 15; rights++) {
            board.state(0, rights, Board.NONE);
            Due.same("RIGHTS " + rights, board.key(), m(900 + rights) ^ m(999));
        }
    }

    /** "M(1000 + PASSING) (NONE counts -1)": NONE and each square, whether it can be taken there or not. */
    static void promise14PassingInTheKey() {
        Board board = new Board();
        for (int passing = Board.NONE; passing <= 63; passing++) {
            board.state(0, 0, passing);
            Due.same("PASSING " + passing, board.key(), m(900) ^ m(1000 + passing));
        }
    }

    /** "If SIDE is 1, of M(2000)". */
    static void promise14SideInTheKey() {
        Board board = new Board();
        board.state(1, 0, Board.NONE);
        Due.same("SIDE 1", board.key(), m(900) ^ m(999) ^ m(2000));
        board.state(0, 0, Board.NONE);
        Due.same("SIDE 0", board.key(), m(900) ^ m(999));
    }

    /** "A key that is the same for the same position", on whatever way it was reached, whatever the clocks. */
    static void promise14SameForTheSamePosition() {
        Board one = begun("e2e4", "g8f6", "g1f3", "f6g8", "f3g1");
        Board other = begun("g1f3", "g8f6", "e2e4", "f6g8", "f3g1");
        Due.same("by two ways", one.key(), other.key());
        String setUp = "rnbqkbnr/pppppppp/8/8/4P3/8/PPPP1PPP/RNBQKBNR b KQkq - 9999 9999";
        Due.same("set up", Chess.board(setUp).key(), one.key());
        Board round = begun("g1f3", "g8f6", "f3g1", "f6g8");
        Due.same("round and back", round.key(), START_KEY);
        Board lost = begun("g1f3", "g8f6", "h1g1", "f6g8", "g1h1", "g8f6", "f3g1", "f6g8");
        Due.same("round, a right lost", lost.key(), START_KEY ^ m(915) ^ m(914));
    }

    /** "The KEY": behind moves of every kind, and as before when they are taken back. */
    static void promise14BehindMovesAndBack() {
        String[] moves = {"e2e4", "a7a6", "e4e5", "d7d5", "e5d6", "g8f6", "d6c7", "b8c6", "c7d8q", "e8d8",
            "g1f3", "c8g4", "f1e2", "d8c8", "e1g1"};
        Board board = begun();
        long[] keys = new long[moves.length];
        for (int i = 0; i < moves.length; i++) {
            keys[i] = board.key();
            play(board, moves[i]);
        }
        Due.same("behind all", board.key(),
                Chess.board("r1k2b1r/1p2pppp/p1n2n2/8/6b1/5N2/PPPPBPPP/RNBQ1RK1 b - -").key());
        for (int i = moves.length - 1; i >= 0; i--) {
            board.unmake();
            Due.same("behind " + moves[i] + " taken back", board.key(), keys[i]);
        }
    }

    // ---- Promise 15: move

    /** "Move i of those that can be taken back, from the first on": the first is 0. */
    static void promise15FromTheFirstOn() {
        Board board = begun("e2e4", "e7e5", "g1f3");
        Due.same("move(0)", board.move(0), Chess.move("e2e4"));
        Due.same("move(1)", board.move(1), Chess.move("e7e5"));
        Due.same("move(2)", board.move(2), Chess.move("g1f3"));
        Board last = Chess.board("8/P7/8/8/8/8/8/8 w - -");
        play(last, "a7a8q");
        Due.same("its kind too", last.move(0), 48 + 64 * 56 + 4096 * 5);
    }

    /** "NONE if there is none": below 0, and from as many on as there are. */
    static void promise15NoneIfThereIsNone() {
        Board board = begun("e2e4", "e7e5", "g1f3");
        String before = seen(board);
        for (int i : new int[] {3, 4, 5, -1, -2, 63, 64, 511, 599, 600, 601, Integer.MIN_VALUE, Integer.MAX_VALUE}) {
            Due.same("move(" + i + ")", board.move(i), Board.NONE);
        }
        unchanged("move of none", before, board);
    }

    /** "NONE if there is none": at first, for every i. */
    static void promise15NoneAtFirst() {
        Board board = new Board();
        for (int i : new int[] {0, 1, -1, 599, 600, Integer.MIN_VALUE, Integer.MAX_VALUE}) {
            Due.same("move(" + i + ") at first", board.move(i), Board.NONE);
        }
        board.begin();
        Due.same("move(0) behind begin()", board.move(0), Board.NONE);
    }

    /** "Of those that can be taken back": not one that was taken back, nor one that a setting up forgot. */
    static void promise15NotWhatWasTakenBackOrForgotten() {
        Board board = begun("e2e4", "e7e5", "g1f3");
        board.unmake();
        Due.same("move(2) taken back", board.move(2), Board.NONE);
        Due.same("move(1) not taken back", board.move(1), Chess.move("e7e5"));
        play(board, "d2d4");
        Due.same("move(2) is another", board.move(2), Chess.move("d2d4"));
        board.clocks(0, 1);
        for (int i = 0; i <= 2; i++) {
            Due.same("move(" + i + ") forgotten", board.move(i), Board.NONE);
        }
        play(board, "d7d5");
        Due.same("move(0) is the first behind that", board.move(0), Chess.move("d7d5"));
        Due.same("move(1) behind that", board.move(1), Board.NONE);
    }

    /** "Of those that can be taken back": what make refused is none of them. */
    static void promise15NotWhatWasRefused() {
        Board board = begun("e2e4");
        Due.thrown("make d2d4", ARGUMENT, () -> board.make(Chess.move("d2d4")));
        Due.same("move(1)", board.move(1), Board.NONE);
        Due.same("move(0)", board.move(0), Chess.move("e2e4"));
    }

    // ---- Promise 16: look

    /** "which 0: SIDE, .. 8: material of black": each its own. */
    static void promise16EachWhich() {
        looks("set up", Chess.board("qqk5/rnbp4/8/8/8/8/P7/KQRBN3 b Kq h6 12 34"),
                1, 9, Chess.square("h6"), 12, 34, 13, 0, 1 + 9 + 5 + 3 + 3, 9 + 9 + 5 + 3 + 3 + 1);
        looks("at first", new Board(), 0, 0, Board.NONE, 0, 1, 0, 0, 0, 0);
        looks("at the beginning", begun(), 0, 15, Board.NONE, 0, 1, 32, 0, 39, 39);
        looks("behind moves", begun("e2e4", "d7d5", "e4d5", "d8d5", "e1e2"), 1, 12, Board.NONE, 1, 3, 30, 5, 38, 38);
    }

    /** "NONE for any other which": -1 and 9 are others. */
    static void promise16AnyOtherWhich() {
        Board board = begun("e2e4");
        String before = seen(board);
        Due.same("look(-1)", board.look(-1), Board.NONE);
        for (int which = 9; which <= 20; which++) {
            Due.same("look(" + which + ")", board.look(which), Board.NONE);
        }
        for (int wrong : NOTHING) {
            Due.same("look(" + wrong + ")", board.look(wrong), Board.NONE);
        }
        unchanged("look at another", before, board);
    }

    /** "5: pieces on the board": 0 .. 32, kings too; one less behind a taking, as many behind any other move. */
    static void promise16PiecesOnTheBoard() {
        Board board = new Board();
        for (int i = 0; i < 32; i++) {
            Due.same("pieces", board.look(5), i);
            board.put(63 - i, 1 + i % 12);
        }
        Due.same("pieces of a full board", board.look(5), 32);
        Board game = begun("e2e4", "d7d5");
        Due.same("behind no taking", game.look(5), 32);
        play(game, "e4d5");
        Due.same("behind a taking", game.look(5), 31);
        game.unmake();
        Due.same("behind it is taken back", game.look(5), 32);
        Board passing = Chess.board("8/8/8/3pP3/8/8/8/8 w - d6");
        play(passing, "e5d6");
        Due.same("behind a taking in passing", passing.look(5), 1);
        Board castling = Chess.board("8/8/8/8/8/8/8/R3K2R w KQ -");
        play(castling, "e1c1");
        Due.same("behind castling", castling.look(5), 3);
    }

    /** "6: moves that can be taken back". */
    static void promise16MovesThatCanBeTakenBack() {
        Board board = begun("e2e4", "d7d5", "e4d5");
        Due.same("behind three", board.look(6), 3);
        board.unmake();
        Due.same("behind one taken back", board.look(6), 2);
        Due.thrown("make a1a8", ARGUMENT, () -> board.make(Chess.move("a1a8")));
        Due.same("behind one refused", board.look(6), 2);
        board.unmake();
        board.unmake();
        Due.same("behind all taken back", board.look(6), 0);
        Due.thrown("unmake()", STATE, board::unmake);
        Due.same("behind an unmake() of none", board.look(6), 0);
    }

    /** "7, 8: material of white, of black (pawn 1, knight, bishop 3, rook 5, queen 9)": a king counts nothing. */
    static void promise16MaterialOfEachPiece() {
        int[] worth = {0, 1, 3, 3, 5, 9, 0};
        for (int type = 1; type <= 6; type++) {
            Board white = alone(0, type);
            Due.same("look(7) of " + type, white.look(7), worth[type]);
            Due.same("look(8) of " + type, white.look(8), 0);
            Board black = alone(63, type + 6);
            Due.same("look(7) of " + (type + 6), black.look(7), 0);
            Due.same("look(8) of " + (type + 6), black.look(8), worth[type]);
        }
    }

    /** "7, 8: material": the most that there can be, and the least of a full board. */
    static void promise16MaterialOfFullBoard() {
        int[] pieces = {5, 11, 6, 12};
        int[] white = {288, 0, 0, 0};
        int[] black = {0, 288, 0, 0};
        for (int i = 0; i < pieces.length; i++) {
            Board board = new Board();
            for (int square = 0; square < 32; square++) {
                board.put(2 * square, pieces[i]);
            }
            Due.same("look(7) of 32 of " + pieces[i], board.look(7), white[i]);
            Due.same("look(8) of 32 of " + pieces[i], board.look(8), black[i]);
        }
    }

    /** "7, 8: material": behind a taking, a pawn that becomes a piece, and both taken back. */
    static void promise16MaterialBehindMoves() {
        Board game = begun("e2e4", "d7d5", "e4d5");
        looks("behind a taking", game, 1, 15, Board.NONE, 0, 2, 31, 3, 39, 38);
        game.unmake();
        Due.same("black's behind it is taken back", game.look(8), 39);
        Board pawn = Chess.board("1r6/P7/8/8/8/8/8/8 w - -");
        play(pawn, "a7b8q");
        Due.same("white's behind a7b8q", pawn.look(7), 9);
        Due.same("black's behind a7b8q", pawn.look(8), 0);
        pawn.unmake();
        Due.same("white's behind it is taken back", pawn.look(7), 1);
        Due.same("black's behind it is taken back", pawn.look(8), 5);
    }
}
