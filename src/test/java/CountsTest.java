import java.util.ArrayList;
import java.util.List;

/**
 * Counts the legal games of a few moves from positions whose counts chess programmers know.
 * The moves of the document are held against the rules of chess by check and attackers.
 */
public final class CountsTest {
    /** No object is asked more often than the document promises answers. */
    private static final int CALLS = 512;
    private static final int SET_UP = 50;

    private final String fen;
    private final List<Integer> path = new ArrayList<>();

    private CountsTest(String fen) {
        this.fen = fen;
    }

    public static void main(String[] args) {
        counts("rnbqkbnr/pppppppp/8/8/8/8/PPPPPPPP/RNBQKBNR w KQkq -", 20, 400, 8902);
        counts("r3k2r/p1ppqpb1/bn2pnp1/3PN3/1p2P3/2N2Q1p/PPPBBPPP/R3K2R w KQkq -", 48, 2039, 97862);
        counts("8/2p5/3p4/KP5r/1R3p1k/8/4P1P1/8 w - -", 14, 191, 2812, 43238);
        counts("r3k2r/Pppp1ppp/1b3nbN/nP6/BBP1P3/q4N2/Pp1P2PP/R2Q1RK1 w kq -", 6, 264, 9467);
        counts("r2q1rk1/pP1p2pp/Q4n2/bbp1p3/Np6/1B3NBn/pPPP1PPP/R3K2R b KQ -", 6, 264, 9467);
        counts("rnbq1k1r/pp1Pbppp/2p5/8/2B5/8/PPP1NnPP/RNBQK2R w KQ -", 44, 1486, 62379);
        Due.end();
    }

    private static void counts(String fen, long... due) {
        for (int depth = 1; depth <= due.length; depth++) {
            Due.same("games of " + depth + " from " + fen, new CountsTest(fen).games(depth), due[depth - 1]);
        }
    }

    private long games(int depth) {
        List<Integer> moves = legalMoves();
        if (depth == 1) {
            return moves.size();
        }
        long games = 0;
        for (int move : moves) {
            path.add(move);
            games += games(depth - 1);
            path.remove(path.size() - 1);
        }
        return games;
    }

    private List<Integer> legalMoves() {
        List<Integer> legal = new ArrayList<>();
        Board board = atPath();
        int calls = SET_UP;
        for (int move : CANDIDATES) {
            if (calls > CALLS - 12) {
                board = atPath();
                calls = SET_UP;
            }
            calls++;
            if (board.fits(move)) {
                calls += 10;
                if (isLegal(board, move)) {
                    legal.add(move);
                }
            }
        }
        return legal;
    }

    private Board atPath() {
        Board board = Chess.board(fen);
        for (int move : path) {
            board.make(move);
        }
        return board;
    }

    private static boolean isLegal(Board board, int move) {
        int side = board.look(0);
        int from = move % 64;
        int to = move / 64 % 64;
        int piece = board.at(from);
        if ((piece == 6 || piece == 12) && Math.abs(to - from) == 2
                && (board.check(side) || board.attackers((from + to) / 2, 1 - side) != 0)) {
            return false;
        }
        long key = board.key();
        board.make(move);
        boolean legal = !board.check(side);
        Due.same("unmake()", board.unmake(), move);
        Due.same("key() behind unmake()", board.key(), key);
        return legal;
    }

    private static final int[] CANDIDATES = candidates();

    private static int[] candidates() {
        List<Integer> moves = new ArrayList<>();
        for (int from = 0; from < 64; from++) {
            for (int to = 0; to < 64; to++) {
                for (int kind = 0; kind <= 5; kind++) {
                    boolean couldBecome = Math.abs(to % 8 - from % 8) <= 1 && (to / 8 == 7 || to / 8 == 0);
                    if (kind == 0 || couldBecome) {
                        moves.add(Chess.move(from, to, kind));
                    }
                }
            }
        }
        return moves.stream().mapToInt(Integer::intValue).toArray();
    }
}
