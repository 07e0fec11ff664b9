/** Each promise of the document by itself: ordinary inputs, the edges it names, wrong inputs. */
public final class PromisesTest {
    private static final Class<?> INDEX = IndexOutOfBoundsException.class;
    private static final Class<?> ARGUMENT = IllegalArgumentException.class;
    private static final Class<?> STATE = IllegalStateException.class;

    private static final String START = "rnbqkbnr/pppppppp/8/8/8/8/PPPPPPPP/RNBQKBNR w KQkq -";
    private static final int[] FAR_OFF = {Integer.MIN_VALUE, -65, -64, -2, 65, 128, 4096, Integer.MAX_VALUE};

    public static void main(String[] args) {
        promise1NewObject();
        promise2Clear();
        promise3Begin();
        promise4Put();
        promise4PutAtMost32();
        promise5State();
        promise6Clocks();
        settingUpForgetsMoves();
        promise7FitsAnyNumber();
        promise7FitsPieces();
        promise7FitsPawns();
        promise7FitsLastRank();
        promise7FitsPassing();
        promise7FitsCastling();
        promise8MakePlain();
        promise8MakePassing();
        promise8MakeCastling();
        promise8MakeRights();
        promise8MakeLastRank();
        promise8MakeSetsPassing();
        promise8MakeClocks();
        promise8MakeWrong();
        promise8MakeAtMost600();
        promise9Unmake();
        promise10At();
        promise11Where();
        promise12Attackers();
        promise13Check();
        promise14Key();
        promise15Move();
        promise16Look();
        Due.end();
    }

    // ---- helpers

    private static void isAsAtFirst(String when, Board board) {
        Due.same(when + ": where(0)", board.where(0), -1L);
        int[] due = {0, 0, Board.NONE, 0, 1, 0, 0, 0, 0};
        for (int which = 0; which < due.length; which++) {
            Due.same(when + ": look(" + which + ")", board.look(which), due[which]);
        }
        Due.same(when + ": key()", board.key(), 5248703749819718016L);
        Due.thrown(when + ": unmake()", STATE, board::unmake);
    }

    /** What can be seen of a board, by few calls, for an object promises to answer no more than 512. */
    private static String seen(Board board) {
        StringBuilder all = new StringBuilder();
        all.append(board.key()).append(' ');
        for (int which = 3; which <= 6; which++) {
            all.append(board.look(which)).append(' ');
        }
        for (int i = 0; i < 30 && board.move(i) != Board.NONE; i++) {
            all.append(board.move(i)).append(' ');
        }
        return all.toString();
    }

    private static void unchanged(String call, String before, Board board) {
        String after = seen(board);
        if (!after.equals(before)) {
            Due.tell(call + " left " + after + ", due is " + before);
        }
    }

    private static void refuses(String call, Class<?> want, Board board, Due.Call run) {
        String before = seen(board);
        Due.thrown(call, want, run);
        unchanged(call, before, board);
    }

    private static void fitting(String fen, String... moves) {
        for (String move : moves) {
            Due.yes("fits " + move + " in " + fen, Chess.board(fen).fits(Chess.move(move)));
        }
    }

    private static void unfit(String fen, String... moves) {
        for (String move : moves) {
            Board board = Chess.board(fen);
            int number = Chess.move(move);
            String before = seen(board);
            Due.no("fits " + move + " in " + fen, board.fits(number));
            unchanged("fits " + move + " in " + fen, before, board);
            Due.thrown("make " + move + " in " + fen, ARGUMENT, () -> board.make(number));
            unchanged("make " + move + " in " + fen, before, board);
        }
    }

    /** Makes a move, holds what comes of it against a position, and takes it back. */
    private static void making(String fen, String move, int taken, String due) {
        Board board = Chess.board(fen);
        String before = seen(board);
        String what = move + " in " + fen;
        int number = Chess.move(move);
        Due.same("make " + what, board.make(number), taken);
        Due.same("look(6) behind " + what, board.look(6), 1);
        Due.same("move(0) behind " + what, board.move(0), number);
        Board want = Chess.board(due);
        for (int square = 0; square < 64; square++) {
            Due.same("at(" + square + ") behind " + what, board.at(square), want.at(square));
        }
        for (int which = 0; which <= 8; which++) {
            if (which != 6) {
                Due.same("look(" + which + ") behind " + what, board.look(which), want.look(which));
            }
        }
        Due.same("key() behind " + what, board.key(), want.key());
        Due.same("unmake() behind " + what, board.unmake(), number);
        unchanged("unmake() behind " + what, before, board);
    }

    private static void play(Board board, String moves) {
        for (String move : moves.split(" ")) {
            board.make(Chess.move(move));
        }
    }

    // ---- setting up

    private static void promise1NewObject() {
        isAsAtFirst("new", new Board());
        Board one = new Board();
        one.begin();
        isAsAtFirst("new beside another", new Board());
    }

    private static void promise2Clear() {
        Board board = Chess.board("4k3/8/8/8/4p3/8/3P4/4K3 b KQ e3 40 50");
        board.clear();
        isAsAtFirst("clear()", board);
        board.begin();
        play(board, "e2e4 d7d5 e4d5");
        board.clear();
        isAsAtFirst("clear() behind moves", board);
        board.clear();
        isAsAtFirst("clear() twice", board);
    }

    private static void promise3Begin() {
        Board board = Chess.board("4k3/8/8/8/4p3/8/3P4/4K3 b - e3 40 50");
        board.begin();
        String rows = "RNBQKBNRPPPPPPPP" + ".".repeat(32) + "pppppppprnbqkbnr";
        for (int square = 0; square < 64; square++) {
            Due.same("begin() at(" + square + ")", board.at(square), Chess.piece(rows.charAt(square)));
        }
        int[] due = {0, 15, Board.NONE, 0, 1, 32, 0, 39, 39};
        for (int which = 0; which < due.length; which++) {
            Due.same("begin() look(" + which + ")", board.look(which), due[which]);
        }
        Due.same("begin() key()", board.key(), -4319849861025886312L);
        play(board, "e2e4");
        board.begin();
        Due.same("begin() forgets", board.look(6), 0);
    }

    private static void promise4Put() {
        Board board = new Board();
        for (int piece = 0; piece <= 12; piece++) {
            board.put(63, piece);
            Due.same("put(63, " + piece + ")", board.at(63), piece);
            Due.same("put(63, " + piece + ") look(5)", board.look(5), piece == 0 ? 0 : 1);
        }
        board.put(0, 1);
        Due.same("put(0, 1)", board.at(0), 1);
        Due.same("put(0, 1) leaves the others", board.where(0), ~Chess.bits("a1", "h8"));
        board.state(1, 15, 20);
        board.put(4, 0);
        Due.same("put leaves RIGHTS", board.look(1), 15);
        Due.same("put leaves PASSING", board.look(2), 20);
        for (int wrong : FAR_OFF) {
            refuses("put(" + wrong + ", 1)", INDEX, board, () -> board.put(wrong, 1));
            refuses("put(" + wrong + ", 13)", INDEX, board, () -> board.put(wrong, 13));
            refuses("put(5, " + wrong + ")", ARGUMENT, board, () -> board.put(5, wrong));
        }
        refuses("put(-1, 1)", INDEX, board, () -> board.put(-1, 1));
        refuses("put(64, 0)", INDEX, board, () -> board.put(64, 0));
        refuses("put(5, -1)", ARGUMENT, board, () -> board.put(5, -1));
        refuses("put(5, 13)", ARGUMENT, board, () -> board.put(5, 13));
    }

    private static void promise4PutAtMost32() {
        Board board = new Board();
        for (int square = 0; square < 32; square++) {
            board.put(square, 6);
        }
        Due.same("32 puts look(5)", board.look(5), 32);
        refuses("the 33rd piece", STATE, board, () -> board.put(32, 1));
        refuses("the 33rd piece, a wrong one", ARGUMENT, board, () -> board.put(32, 13));
        refuses("the 33rd piece, off the board", INDEX, board, () -> board.put(64, 1));
        board.put(31, 12);
        Due.same("one of 32 replaced", board.at(31), 12);
        board.put(40, 0);
        Due.same("none put beside 32", board.look(5), 32);
        board.put(0, 0);
        board.put(63, 7);
        Due.same("one taken away and one put", board.look(5), 32);
        refuses("the 33rd piece again", STATE, board, () -> board.put(0, 7));

        Board begun = new Board();
        begun.begin();
        play(begun, "e2e4");
        refuses("the 33rd piece forgets no move", STATE, begun, () -> begun.put(30, 7));
        play(begun, "d7d5 e4d5");
        begun.put(30, 7);
        Due.same("a piece put for one that was taken", begun.look(5), 32);
    }

    private static void promise5State() {
        Board board = Chess.board("4k3/8/8/8/8/8/8/4K3 w - - 7 8");
        board.state(1, 15, 63);
        Due.same("state(1, 15, 63) side", board.look(0), 1);
        Due.same("state(1, 15, 63) rights", board.look(1), 15);
        Due.same("state(1, 15, 63) passing", board.look(2), 63);
        Due.same("state leaves HALF", board.look(3), 7);
        Due.same("state leaves FULL", board.look(4), 8);
        Due.same("state leaves the pieces", board.look(5), 2);
        board.state(0, 0, 0);
        Due.same("state(0, 0, 0) side", board.look(0), 0);
        Due.same("state(0, 0, 0) rights", board.look(1), 0);
        Due.same("state(0, 0, 0) passing", board.look(2), 0);
        board.state(0, 6, Board.NONE);
        Due.same("state(0, 6, NONE) rights", board.look(1), 6);
        Due.same("state(0, 6, NONE) passing", board.look(2), Board.NONE);
        for (int wrong : FAR_OFF) {
            refuses("state(" + wrong + ", 0, 0)", ARGUMENT, board, () -> board.state(wrong, 0, 0));
            refuses("state(1, " + wrong + ", 0)", ARGUMENT, board, () -> board.state(1, wrong, 0));
            refuses("state(1, 1, " + wrong + ")", ARGUMENT, board, () -> board.state(1, 1, wrong));
        }
        refuses("state(-1, 0, 0)", ARGUMENT, board, () -> board.state(-1, 0, 0));
        refuses("state(2, 0, 0)", ARGUMENT, board, () -> board.state(2, 0, 0));
        refuses("state(1, -1, 0)", ARGUMENT, board, () -> board.state(1, -1, 0));
        refuses("state(1, 16, 0)", ARGUMENT, board, () -> board.state(1, 16, 0));
        refuses("state(1, 1, 64)", ARGUMENT, board, () -> board.state(1, 1, 64));
    }

    private static void promise6Clocks() {
        Board board = Chess.board("4k3/8/8/8/8/8/8/4K3 b KQ e3");
        int[][] right = {{0, 1}, {9999, 9999}, {0, 9999}, {9999, 1}, {5, 9}};
        for (int[] clocks : right) {
            board.clocks(clocks[0], clocks[1]);
            Due.same("clocks half", board.look(3), clocks[0]);
            Due.same("clocks full", board.look(4), clocks[1]);
        }
        Due.same("clocks leaves SIDE", board.look(0), 1);
        Due.same("clocks leaves RIGHTS", board.look(1), 3);
        Due.same("clocks leaves PASSING", board.look(2), Chess.square("e3"));
        int[][] wrong = {{-1, 1}, {10000, 1}, {0, 0}, {0, 10000}, {0, -1}, {-1, 0},
            {Integer.MIN_VALUE, 1}, {Integer.MAX_VALUE, 1}, {1, Integer.MIN_VALUE}, {1, Integer.MAX_VALUE}};
        for (int[] clocks : wrong) {
            refuses("clocks(" + clocks[0] + ", " + clocks[1] + ")", ARGUMENT, board,
                    () -> board.clocks(clocks[0], clocks[1]));
        }
    }

    private static void settingUpForgetsMoves() {
        for (int way = 0; way < 6; way++) {
            Board board = new Board();
            board.begin();
            play(board, "e2e4 e7e5");
            switch (way) {
                case 0 -> board.clear();
                case 1 -> board.begin();
                case 2 -> board.put(40, 0);
                case 3 -> board.put(28, 1);
                case 4 -> board.state(0, 15, Board.NONE);
                default -> board.clocks(0, 2);
            }
            Due.same("way " + way + " forgets: look(6)", board.look(6), 0);
            Due.same("way " + way + " forgets: move(0)", board.move(0), Board.NONE);
            refuses("way " + way + " forgets: unmake()", STATE, board, board::unmake);
        }
        Board board = new Board();
        board.begin();
        play(board, "e2e4 e7e5");
        refuses("put(64, 0)", INDEX, board, () -> board.put(64, 0));
        refuses("put(0, 13)", ARGUMENT, board, () -> board.put(0, 13));
        refuses("state(0, 15, 64)", ARGUMENT, board, () -> board.state(0, 15, 64));
        refuses("clocks(0, 0)", ARGUMENT, board, () -> board.clocks(0, 0));
        Due.same("what throws forgets nothing", board.unmake(), Chess.move("e7e5"));
    }

    // ---- what is a move

    private static void promise7FitsAnyNumber() {
        Board board = new Board();
        board.begin();
        int e2e4 = Chess.move("e2e4");
        Due.yes("fits e2e4", board.fits(e2e4));
        for (int bit = 12; bit < 32; bit++) {
            int move = e2e4 | 1 << bit;
            Due.no("fits(" + move + ")", board.fits(move));
            refuses("make(" + move + ")", ARGUMENT, board, () -> board.make(move));
        }
        int[] wrong = {Integer.MIN_VALUE, Integer.MAX_VALUE, -1, 0, 4096, e2e4 - 4096, -e2e4, 6 * 4096 + e2e4};
        for (int move : wrong) {
            Due.no("fits(" + move + ")", board.fits(move));
            refuses("make(" + move + ")", ARGUMENT, board, () -> board.make(move));
        }
        unfit(START, "e3e4", "e7e5", "e2e2", "a1a2", "a1a3", "c1e3", "d1d3", "e1e2", "e1g1", "g1e2", "e2d3");
        fitting(START, "a2a3", "a2a4", "h2h3", "h2h4", "b1a3", "b1c3", "g1f3", "g1h3");
        unfit(START.replace(" w ", " b "), "e2e4", "b1c3", "e8g8");
        fitting(START.replace(" w ", " b "), "e7e5", "e7e6", "b8c6", "g8h6");
        Due.no("fits on an empty board", new Board().fits(e2e4));
    }

    private static void promise7FitsPieces() {
        String knight = "8/8/2p1P3/5k2/3N4/5K2/8/8 w - -";
        fitting(knight, "d4b3", "d4c2", "d4e2", "d4b5", "d4c6");
        unfit(knight, "d4e6", "d4f5", "d4f3", "d4d5", "d4d6", "d4f4", "d4b4");
        String bishop = "8/6p1/8/2P5/3B4/8/1k6/8 w - -";
        fitting(bishop, "d4e5", "d4f6", "d4g7", "d4e3", "d4g1", "d4c3");
        unfit(bishop, "d4h8", "d4c5", "d4b6", "d4b2", "d4a1", "d4d5", "d4d8");
        String rook = "8/3p4/8/8/1P1R2k1/8/8/8 w - -";
        fitting(rook, "d4d7", "d4d1", "d4c4", "d4e4", "d4f4");
        unfit(rook, "d4d8", "d4b4", "d4a4", "d4g4", "d4h4", "d4e5");
        String queen = "8/3p4/8/8/1P1q2k1/8/5R2/8 b - -";
        fitting(queen, "d4b4", "d4f2", "d4d1", "d4a1", "d4h8", "d4f4", "d4a7");
        unfit(queen, "d4d7", "d4d8", "d4a4", "d4g4", "d4g1", "d4e6", "d4c2");
        String king = "8/8/8/2k5/3K4/3P4/8/8 w - -";
        fitting(king, "d4c4", "d4e4", "d4d5", "d4e5", "d4c3", "d4e3");
        unfit(king, "d4c5", "d4d3", "d4f4", "d4b4", "d4d6");
        String edge = "8/8/8/7R/K6N/B7/8/8 w - -";
        unfit(edge, "h5a6", "h4a6", "a3h4", "a3h3", "a4h3", "a4h4", "h4b5", "a3h1");
        unfit("8/8/8/8/R7/8/8/8 w - -", "a4h3", "a4h5", "a4b3");
        unfit("8/8/8/8/B7/8/8/8 w - -", "a4h4", "a4h6", "a4h2");
    }

    private static void promise7FitsPawns() {
        String white = "8/8/8/8/8/p1p1p3/PP1P2P1/8 w - -";
        fitting(white, "b2b3", "b2b4", "b2a3", "b2c3", "d2d3", "d2d4", "d2c3", "d2e3", "g2g3", "g2g4");
        unfit(white, "a2a3", "a2a4", "b2b5", "g2f3", "g2h3", "d2d1", "b2c1", "a2h3", "g2g2", "g2f2");
        unfit("8/8/8/8/p7/8/P7/8 w - -", "a2a4");
        fitting("8/8/8/8/p7/8/P7/8 w - -", "a2a3");
        unfit("8/8/8/8/8/P7/8/P7 w - -", "a3a5", "a1a3");
        fitting("8/8/8/8/8/P7/8/P7 w - -", "a3a4", "a1a2");
        String black = "8/p1p3p1/1P5P/8/8/8/8/8 b - -";
        fitting(black, "a7a6", "a7a5", "a7b6", "c7b6", "c7c6", "c7c5", "g7h6", "g7g5");
        unfit(black, "g7f6", "a7a8", "a7h6", "a7h7", "c7d6", "c7c4", "g7h8");
        unfit("p7/8/p7/8/8/8/8/8 b - -", "a8a6", "a6a4");
        fitting("p7/8/p7/8/8/8/8/8 b - -", "a8a7", "a6a5");
        unfit("8/8/8/2k1k3/3P4/8/8/8 w - -", "d4c5", "d4e5");
        unfit("8/8/8/p7/7P/8/8/8 w - -", "h4a5", "h4a6");
        unfit("8/8/8/p7/7P/8/8/8 b - -", "a5h4", "a5h3");
    }

    private static void promise7FitsLastRank() {
        String white = "1n3k2/P3P3/8/8/8/8/8/8 w - -";
        fitting(white, "a7a8n", "a7a8b", "a7a8r", "a7a8q", "a7b8n", "a7b8q", "e7e8q");
        unfit(white, "a7a8", "a7b8", "e7f8q", "e7f8", "e7d8q");
        Board board = Chess.board(white);
        for (int kind : new int[] {0, 1, 6, 7, 8, 10, 11, 1 << 18, (1 << 19) - 1}) {
            int move = Chess.move("a7a8") + 4096 * kind;
            refuses("kind " + kind, ARGUMENT, board, () -> board.make(move));
        }
        fitting("8/8/8/8/8/8/p7/1N6 b - -", "a2a1n", "a2a1q", "a2b1r");
        unfit("8/8/8/8/8/8/p7/1N6 b - -", "a2a1", "a2b1");
        unfit("8/R6K/8/P7/8/8/8/8 w - -", "a7a8q", "h7h8q", "a5a6q");
        unfit("P7/8/8/8/8/8/8/7p w - -", "a8a8q", "a8b8q");
        Board below = Chess.board("P7/8/8/8/8/8/8/7p w - -");
        for (int to = 0; to < 64; to++) {
            for (int kind = 0; kind <= 5; kind++) {
                Due.no("a pawn on the last rank goes to " + to, below.fits(Chess.move(56, to, kind)));
            }
        }
        // Rank 8 is not black's last rank, nor rank 1 white's.
        fitting("p7/8/8/8/8/7p/8/8 b - -", "h3h2", "a8a7");
        unfit("p7/8/8/8/8/7p/8/8 b - -", "h3h2q", "a8a7q");
    }

    private static void promise7FitsPassing() {
        fitting("8/8/8/3pP3/8/8/8/8 w - d6", "e5d6", "e5e6");
        unfit("8/8/8/3pP3/8/8/8/8 w - -", "e5d6");
        unfit("8/8/8/3pP3/8/8/8/8 w - f6", "e5d6", "e5f6");
        unfit("8/8/8/3nP3/8/8/8/8 w - d6", "e5d6");
        unfit("8/8/8/3PP3/8/8/8/8 w - d6", "e5d6");
        unfit("8/3p4/8/4P3/8/8/8/8 w - d6", "e5d6");
        fitting("8/8/3n4/4P3/8/8/8/8 w - d6", "e5d6");
        unfit("8/8/3N4/3pP3/8/8/8/8 w - d6", "e5d6");
        unfit("8/8/3k4/3pP3/8/8/8/8 w - d6", "e5d6");
        fitting("8/8/8/8/3pP3/8/8/8 b - e3", "d4e3");
        unfit("8/8/8/8/3pP3/8/8/8 b - -", "d4e3");
        unfit("8/8/8/8/3p4/8/4P3/8 b - e3", "d4e3");
        unfit("8/8/8/p7/7P/8/8/8 w - a6", "h4a6", "h4a5");
        // Where PASSING has been set up matters not, if all the rest is as the words say.
        fitting("8/8/8/8/8/8/Pp6/8 w - b3", "a2b3");
        fitting("8/Pp6/8/8/8/8/8/8 w - b8", "a7b8q", "a7b8n");
        unfit("8/Pp6/8/8/8/8/8/8 w - b8", "a7b8");
        fitting("8/8/8/8/8/8/pP6/8 b - b1", "a2b1q");
        unfit("8/8/8/8/8/8/8/pP6 b - b1", "a1b1");
    }

    private static void promise7FitsCastling() {
        String both = "r3k2r/8/8/8/8/8/8/R3K2R w KQkq -";
        fitting(both, "e1g1", "e1c1");
        fitting(both.replace(" w ", " b "), "e8g8", "e8c8");
        unfit(both, "e8g8", "e1h1", "e1b1", "e1a1", "e1e3", "e1g2", "e1g3");
        String[] letters = {"K", "Q", "k", "q"};
        String[] moves = {"e1g1", "e1c1", "e8g8", "e8c8"};
        for (int i = 0; i < 4; i++) {
            for (int j = 0; j < 4; j++) {
                String fen = both.replace("KQkq", letters[i]).replace(" w ", j < 2 ? " w " : " b ");
                if (i == j) {
                    fitting(fen, moves[j]);
                } else {
                    unfit(fen, moves[j]);
                }
            }
        }
        // Each square between them must be empty, of both sides' pieces.
        for (String square : new String[] {"b1", "c1", "d1", "f1", "g1", "b8", "c8", "d8", "f8", "g8"}) {
            for (int piece : new int[] {2, 8}) {
                Board board = Chess.board(both.replace(" w ", square.endsWith("1") ? " w " : " b "));
                board.put(Chess.square(square), piece);
                boolean kingSide = square.charAt(0) > 'e';
                int home = square.endsWith("1") ? 4 : 60;
                Due.same("king side with one on " + square,
                        board.fits(Chess.move(home, home + 2, 0)) ? 1 : 0, kingSide ? 0 : 1);
                Due.same("queen side with one on " + square,
                        board.fits(Chess.move(home, home - 2, 0)) ? 1 : 0, kingSide ? 1 : 0);
            }
        }
        // No rook, or not the own one, or not on its corner.
        unfit("4k3/8/8/8/8/8/8/4K3 w KQkq -", "e1g1", "e1c1");
        unfit("r3k2r/8/8/8/8/8/8/r3K2r w KQkq -", "e1g1", "e1c1");
        unfit("R3k2R/8/8/8/8/8/8/R3K2R b KQkq -", "e8g8", "e8c8");
        unfit("r3k2r/8/8/8/8/8/8/1R2K1R1 w KQkq -", "e1g1", "e1c1");
        unfit("8/8/8/8/8/8/8/Q3K2Q w KQkq -", "e1g1", "e1c1");
        // Not from another square, nor by another piece.
        unfit("8/8/8/8/8/8/8/R2K3R w KQkq -", "d1f1", "d1b1");
        unfit("8/8/8/8/8/8/4K3/R6R w KQkq -", "e2g2", "e2c2", "e2g1", "e2c1");
        unfit("R3K2R/8/8/8/8/8/8/8 w KQkq -", "e8g8", "e8c8");
        unfit("r3K2r/8/8/8/8/8/8/8 w KQkq -", "e8g8", "e8c8");
        unfit("8/8/8/8/8/8/8/r3k2r b KQkq -", "e1g1", "e1c1");
        unfit("8/8/8/8/8/8/8/R3N2R w KQkq -", "e1g1", "e1c1");
        // Attacks do not matter.
        fitting("2rrkrr1/8/8/8/4r3/8/8/R3K2R w KQ -", "e1g1", "e1c1");
        fitting("k1r2r2/8/8/8/4q3/8/8/R3K2R w KQ -", "e1g1", "e1c1");
    }

    // ---- making

    private static void promise8MakePlain() {
        making(START, "g1f3", 0, "rnbqkbnr/pppppppp/8/8/8/5N2/PPPPPPPP/RNBQKB1R b KQkq - 1 1");
        making(START, "e2e3", 0, "rnbqkbnr/pppppppp/8/8/8/4P3/PPPP1PPP/RNBQKBNR b KQkq - 0 1");
        making("4k3/8/8/3q4/8/2N5/8/4K3 w - - 8 3", "c3d5", 11, "4k3/8/8/3N4/8/8/8/4K3 b - - 0 3");
        making("4k3/8/8/3q4/8/2N5/8/4K3 b - - 8 3", "d5d1", 0, "4k3/8/8/8/8/2N5/8/3qK3 w - - 9 4");
        making("4k3/8/8/3q4/4P3/8/8/4K3 w - - 8 3", "e4d5", 11, "4k3/8/8/3P4/8/8/8/4K3 b - - 0 3");
        making("4k3/8/8/3q4/4P3/8/8/4K3 b - - 8 3", "d5e4", 1, "4k3/8/8/8/4q3/8/8/4K3 w - - 0 4");
        // It may leave the own king in check.
        making("4r1k1/8/8/8/8/8/4B3/4K3 w - - 0 1", "e2d3", 0, "4r1k1/8/8/8/8/3B4/8/4K3 b - - 1 1");
        int[] taken = {2, 3, 4, 5, 8, 9, 10, 11};
        for (int piece : taken) {
            Board board = new Board();
            board.put(0, piece > 6 ? 5 : 11);
            board.put(7, piece);
            board.state(piece > 6 ? 0 : 1, 0, Board.NONE);
            Due.same("taking " + piece, board.make(Chess.move("a1h1")), piece);
            Due.same("pieces behind taking " + piece, board.look(5), 1);
        }
    }

    private static void promise8MakePassing() {
        making("8/8/8/3pP3/8/8/8/8 w - d6 0 9", "e5d6", 7, "8/8/3P4/8/8/8/8/8 b - - 0 9");
        making("8/8/8/3pPp2/8/8/8/8 w - f6 0 9", "e5f6", 7, "8/8/5P2/3p4/8/8/8/8 b - - 0 9");
        making("8/8/8/8/3pP3/8/8/8 b - e3 0 9", "d4e3", 1, "8/8/8/8/8/4p3/8/8 w - - 0 10");
        // A piece that stands on PASSING is taken itself.
        making("8/8/3n4/3pP3/8/8/8/8 w - d6 0 9", "e5d6", 8, "8/8/3P4/3p4/8/8/8/8 b - - 0 9");
        making("8/8/3p4/3pP3/8/8/8/8 w - d6 0 9", "e5d6", 7, "8/8/3P4/3p4/8/8/8/8 b - - 0 9");
        // Only a pawn's attack takes in passing.
        making("8/8/8/3p4/8/8/8/3Q4 w - d6 4 9", "d1d5", 7, "8/8/8/3Q4/8/8/8/8 b - - 0 9");
        making("8/8/8/3p2B1/8/8/8/4K3 w - e7 4 9", "g5e7", 0, "8/4B3/8/3p4/8/8/8/4K3 b - - 5 9");
        making("8/8/8/3p4/1B6/8/8/8 w - d6 4 9", "b4d6", 0, "8/8/3B4/3p4/8/8/8/8 b - - 5 9");
        making("8/8/8/2Kp4/8/8/8/8 w - d6 4 9", "c5d6", 0, "8/8/3K4/3p4/8/8/8/8 b - - 5 9");
        making("8/8/8/3P4/8/8/8/8 w - d6 4 9", "d5d6", 0, "8/8/3P4/8/8/8/8/8 b - - 0 9");
        making("8/8/8/8/3p4/8/8/8 b - d3 4 9", "d4d3", 0, "8/8/8/8/8/3p4/8/8 w - - 0 10");
        // In passing and to the last rank at once, where PASSING has been set up so.
        making("8/Pp6/8/8/8/8/8/8 w - b8 3 9", "a7b8n", 7, "1N6/8/8/8/8/8/8/8 b - - 0 9");
        making("8/8/8/8/8/8/pP6/8 b - b1 3 9", "a2b1r", 1, "8/8/8/8/8/8/8/1r6 w - - 0 10");
    }

    private static void promise8MakeCastling() {
        String fen = "r3k2r/8/8/8/8/8/8/R3K2R w KQkq d6 5 6";
        making(fen, "e1g1", 0, "r3k2r/8/8/8/8/8/8/R4RK1 b kq - 6 6");
        making(fen, "e1c1", 0, "r3k2r/8/8/8/8/8/8/2KR3R b kq - 6 6");
        String black = fen.replace(" w ", " b ");
        making(black, "e8g8", 0, "r4rk1/8/8/8/8/8/8/R3K2R w KQ - 6 7");
        making(black, "e8c8", 0, "2kr3r/8/8/8/8/8/8/R3K2R w KQ - 6 7");
        // A piece that is no king and goes two files carries no rook along.
        making("8/8/8/8/8/8/8/R3Q2R w - - 5 6", "e1g1", 0, "8/8/8/8/8/8/8/R5QR b - - 6 6");
    }

    private static void promise8MakeRights() {
        String fen = "r3k2r/8/8/8/8/8/8/R3K2R w KQkq - 5 6";
        making(fen, "e1e2", 0, "r3k2r/8/8/8/8/8/4K3/R6R b kq - 6 6");
        making(fen, "a1a2", 0, "r3k2r/8/8/8/8/8/R7/4K2R b Kkq - 6 6");
        making(fen, "h1h2", 0, "r3k2r/8/8/8/8/8/7R/R3K3 b Qkq - 6 6");
        making(fen, "a1a8", 10, "R3k2r/8/8/8/8/8/8/4K2R b Kk - 0 6");
        making(fen, "h1h8", 10, "r3k2R/8/8/8/8/8/8/R3K3 b Qq - 0 6");
        String black = fen.replace(" w ", " b ");
        making(black, "e8d7", 0, "r6r/3k4/8/8/8/8/8/R3K2R w KQ - 6 7");
        making(black, "a8b8", 0, "1r2k2r/8/8/8/8/8/8/R3K2R w KQk - 6 7");
        making(black, "h8g8", 0, "r3k1r1/8/8/8/8/8/8/R3K2R w KQq - 6 7");
        making(black, "a8a1", 4, "4k2r/8/8/8/8/8/8/r3K2R w Kk - 0 7");
        making(black, "h8h1", 4, "r3k3/8/8/8/8/8/8/R3K2r w Qq - 0 7");
        // Whatever goes from a corner or comes to it.
        making("8/8/8/8/8/8/8/N7 w KQkq - 0 1", "a1b3", 0, "8/8/8/8/8/1N6/8/8 b Kkq - 1 1");
        making("7n/8/8/8/8/8/8/8 b KQkq - 0 1", "h8g6", 0, "8/8/6n1/8/8/8/8/8 w KQq - 1 2");
        making("8/8/8/8/8/2b5/8/8 b KQkq - 0 1", "c3a1", 0, "8/8/8/8/8/8/8/b7 w Kkq - 1 2");
        making("8/7P/8/8/8/8/8/8 w KQkq - 0 1", "h7h8q", 0, "7Q/8/8/8/8/8/8/8 b KQq - 0 1");
        making("8/8/8/8/8/8/8/2R5 w KQkq - 0 1", "c1d1", 0, "8/8/8/8/8/8/8/3R4 b KQkq - 1 1");
        // A king takes its side's rights with it from wherever it goes, a corner's besides.
        making("8/8/8/3K4/8/8/8/8 w KQkq - 0 1", "d5d6", 0, "8/8/3K4/8/8/8/8/8 b kq - 1 1");
        making("8/6K1/8/8/8/8/8/8 w KQkq - 0 1", "g7h8", 0, "7K/8/8/8/8/8/8/8 b q - 1 1");
        making("8/8/8/8/8/8/1k6/8 b KQkq - 0 1", "b2a1", 0, "8/8/8/8/8/8/8/k7 w K - 1 2");
        // The rook that stands on e1 is no king.
        making("8/8/8/8/8/8/8/4R3 w KQkq - 0 1", "e1e2", 0, "8/8/8/8/8/8/4R3/8 b KQkq - 1 1");
    }

    private static void promise8MakeLastRank() {
        String fen = "1n6/P7/8/8/8/8/p7/1N6 w - - 9 9";
        String black = fen.replace(" w ", " b ");
        for (String letter : new String[] {"n", "b", "r", "q"}) {
            String big = letter.toUpperCase();
            making(fen, "a7a8" + letter, 0, big + "n6/8/8/8/8/8/p7/1N6 b - - 0 9");
            making(fen, "a7b8" + letter, 8, "1" + big + "6/8/8/8/8/8/p7/1N6 b - - 0 9");
            making(black, "a2a1" + letter, 0, "1n6/P7/8/8/8/8/8/" + letter + "N6 w - - 0 10");
            making(black, "a2b1" + letter, 2, "1n6/P7/8/8/8/8/8/1" + letter + "6 w - - 0 10");
        }
    }

    private static void promise8MakeSetsPassing() {
        making("8/8/8/8/1p6/8/2P5/8 w - - 0 1", "c2c4", 0, "8/8/8/8/1pP5/8/8/8 b - c3 0 1");
        making("8/8/8/8/3p4/8/2P5/8 w - - 0 1", "c2c4", 0, "8/8/8/8/2Pp4/8/8/8 b - c3 0 1");
        making("8/8/8/8/8/8/2P5/8 w - a6 0 1", "c2c4", 0, "8/8/8/8/2P5/8/8/8 b - - 0 1");
        making("8/8/8/8/1P1P4/8/2P5/8 w - - 0 1", "c2c4", 0, "8/8/8/8/1PPP4/8/8/8 b - - 0 1");
        making("8/8/8/8/1n1q4/8/2P5/8 w - - 0 1", "c2c4", 0, "8/8/8/8/1nPq4/8/8/8 b - - 0 1");
        making("8/8/8/8/8/1p1p4/2P5/8 w - - 0 1", "c2c4", 0, "8/8/8/8/2P5/1p1p4/8/8 b - - 0 1");
        making("8/8/8/8/1p6/8/2P5/8 w - - 0 1", "c2c3", 0, "8/8/8/8/1p6/2P5/8/8 b - - 0 1");
        // The file beside h is not a.
        making("8/8/8/7p/8/8/P7/8 w - - 0 1", "a2a4", 0, "8/8/8/7p/P7/8/8/8 b - - 0 1");
        making("8/8/8/8/7p/8/P7/8 w - - 0 1", "a2a4", 0, "8/8/8/8/P6p/8/8/8 b - - 0 1");
        making("8/8/8/8/p7/8/7P/8 w - - 0 1", "h2h4", 0, "8/8/8/8/p6P/8/8/8 b - - 0 1");
        making("8/8/8/p7/8/8/7P/8 w - - 0 1", "h2h4", 0, "8/8/8/p7/7P/8/8/8 b - - 0 1");
        making("8/7p/8/P7/8/8/8/8 b - - 0 1", "h7h5", 0, "8/8/8/P6p/8/8/8/8 w - - 0 2");
        making("8/2p5/8/1P6/8/8/8/8 b - - 0 1", "c7c5", 0, "8/8/8/1Pp5/8/8/8/8 w - c6 0 2");
        making("8/2p5/8/3P4/8/8/8/8 b - - 0 1", "c7c5", 0, "8/8/8/2pP4/8/8/8/8 w - c6 0 2");
        making("8/2p5/8/1p1p4/8/8/8/8 b - - 0 1", "c7c5", 0, "8/8/8/1ppp4/8/8/8/8 w - - 0 2");
        // A pawn that may not move for its king's sake counts too.
        making("8/8/8/8/k1p4R/8/1P6/8 w - - 0 1", "b2b4", 0, "8/8/8/8/kPp4R/8/8/8 b - b3 0 1");
        // Two ranks by something else than a pawn.
        making("8/8/8/8/1p6/8/2R5/8 w - - 0 1", "c2c4", 0, "8/8/8/8/1pR5/8/8/8 b - - 1 1");

        Board board = new Board();
        board.begin();
        play(board, "e2e4 a7a6 e4e5 d7d5");
        Due.same("PASSING behind d7d5", board.look(2), Chess.square("d6"));
        Due.same("e5d6 takes", board.make(Chess.move("e5d6")), 7);
        Due.same("d5 behind it", board.at(Chess.square("d5")), 0);
        board.unmake();
        play(board, "b1c3");
        Due.same("PASSING is gone", board.look(2), Board.NONE);
    }

    private static void promise8MakeClocks() {
        Board board = Chess.board("4k3/8/8/8/8/8/8/4K3 w - - 9999 9999");
        play(board, "e1e2 e8e7");
        Due.same("HALF over 9999", board.look(3), 10001);
        Due.same("FULL over 9999", board.look(4), 10000);
        play(board, "e2e1");
        Due.same("FULL behind white's", board.look(4), 10000);
        board.unmake();
        board.unmake();
        board.unmake();
        Due.same("HALF again", board.look(3), 9999);
        Due.same("FULL again", board.look(4), 9999);
    }

    private static void promise8MakeWrong() {
        Board board = new Board();
        refuses("make on an empty board", ARGUMENT, board, () -> board.make(0));
        board.begin();
        play(board, "e2e4");
        for (String move : new String[] {"e4e5", "e7e4", "e8e7", "a8a6", "d2d4", "e7e5q"}) {
            refuses("make " + move, ARGUMENT, board, () -> board.make(Chess.move(move)));
        }
        for (int wrong : FAR_OFF) {
            refuses("make(" + wrong + ")", ARGUMENT, board, () -> board.make(wrong));
        }
    }

    /** These are more calls than the document promises answers to; the class keeps its limit all the same. */
    private static void promise8MakeAtMost600() {
        Board board = new Board();
        board.begin();
        String[] circle = {"g1f3", "g8f6", "f3g1", "f6g8"};
        for (int i = 0; i < 600; i++) {
            board.make(Chess.move(circle[i % 4]));
        }
        Due.same("look(6)", board.look(6), 600);
        Due.same("move(599)", board.move(599), Chess.move("f6g8"));
        Due.same("move(600)", board.move(600), Board.NONE);
        Due.yes("fits g1f3", board.fits(Chess.move("g1f3")));
        refuses("make 601", STATE, board, () -> board.make(Chess.move("g1f3")));
        refuses("make 601, a wrong one", ARGUMENT, board, () -> board.make(Chess.move("g1g3")));
        board.unmake();
        board.make(Chess.move("f6g8"));
        for (int i = 599; i >= 0; i--) {
            Due.same("unmake " + i, board.unmake(), Chess.move(circle[i % 4]));
        }
        refuses("unmake 601", STATE, board, board::unmake);
        Due.same("key()", board.key(), -4319849861025886312L);
    }

    private static void promise9Unmake() {
        Board board = new Board();
        refuses("unmake() at first", STATE, board, board::unmake);
        board.begin();
        refuses("unmake() behind begin()", STATE, board, board::unmake);
        String[] moves = {"e2e4", "d7d5", "e4d5", "c7c5", "d5c6", "g8f6", "c6b7", "c8d7", "b7a8n", "d8a5",
            "g1f3", "e7e6", "f1e2", "f8e7", "e1g1", "e8g8", "d2d4", "a5a2", "a1a2", "d7b5", "e2b5"};
        String[] seen = new String[moves.length];
        for (int i = 0; i < moves.length; i++) {
            seen[i] = seen(board);
            board.make(Chess.move(moves[i]));
        }
        Board back = new Board();
        back.begin();
        play(back, String.join(" ", moves));
        for (int i = moves.length - 1; i >= 0; i--) {
            Due.same("unmake() of " + moves[i], back.unmake(), Chess.move(moves[i]));
            unchanged("unmake() of " + moves[i], seen[i], back);
        }
        refuses("unmake() of none", STATE, back, back::unmake);
        play(back, "d2d4 d7d5");
        Due.same("unmake() behind others", back.unmake(), Chess.move("d7d5"));
        play(back, "g8f6");
        Due.same("move(1) is the later one", back.move(1), Chess.move("g8f6"));
        Due.same("unmake() of the later one", back.unmake(), Chess.move("g8f6"));
    }

    // ---- asking

    private static void promise10At() {
        Board board = Chess.board("7k/8/8/8/8/8/8/R7 w - -");
        Due.same("at(0)", board.at(0), 4);
        Due.same("at(63)", board.at(63), 12);
        Due.same("at(1)", board.at(1), 0);
        for (int wrong : FAR_OFF) {
            refuses("at(" + wrong + ")", INDEX, board, () -> board.at(wrong));
        }
        refuses("at(-1)", INDEX, board, () -> board.at(-1));
        refuses("at(64)", INDEX, board, () -> board.at(64));
    }

    private static void promise11Where() {
        Board empty = new Board();
        Due.same("where(0) of an empty board", empty.where(0), -1L);
        Due.same("where(1) of an empty board", empty.where(1), 0);
        Board board = new Board();
        board.begin();
        long[] due = {0x0000FFFFFFFF0000L, 0xFF00L, 0x42L, 0x24L, 0x81L, 0x08L, 0x10L,
            0xFFL << 48, 0x42L << 56, 0x24L << 56, 0x81L << 56, 0x08L << 56, 0x10L << 56};
        for (int piece = 0; piece <= 12; piece++) {
            Due.same("where(" + piece + ")", board.where(piece), due[piece]);
        }
        for (int wrong : new int[] {-1, 13, 64, 256, Integer.MIN_VALUE, Integer.MAX_VALUE}) {
            Due.same("where(" + wrong + ")", board.where(wrong), 0);
        }
    }

    private static void promise12Attackers() {
        Board board = Chess.board("3r3k/8/1b3n2/2p1p3/3Q4/2P1P3/1B3N2/3R3K w - -");
        Due.same("d4 by white", board.attackers(Chess.square("d4"), 0), Chess.bits("c3", "e3", "d1"));
        Due.same("d4 by black", board.attackers(Chess.square("d4"), 1), Chess.bits("c5", "e5", "d8"));
        Due.same("c5 by black", board.attackers(Chess.square("c5"), 1), Chess.bits("b6"));
        Due.same("c5 by white", board.attackers(Chess.square("c5"), 0), Chess.bits("d4"));
        Due.same("e4 by white", board.attackers(Chess.square("e4"), 0), Chess.bits("d4", "f2"));
        Due.same("e4 by black", board.attackers(Chess.square("e4"), 1), Chess.bits("f6"));
        Due.same("h8 by white", board.attackers(63, 0), 0);
        Due.same("h8 by black", board.attackers(63, 1), Chess.bits("d8"));
        Due.same("g2 by white", board.attackers(Chess.square("g2"), 0), Chess.bits("h1"));
        Due.same("g7 by black", board.attackers(Chess.square("g7"), 1), Chess.bits("h8"));
        Due.same("h1 by white", board.attackers(7, 0), Chess.bits("d1", "f2"));
        // Pawns attack onward alone, and not round the edge.
        Board pawns = Chess.board("8/8/8/p6p/P6P/8/8/8 w - b6");
        Due.same("b5 by white", pawns.attackers(Chess.square("b5"), 0), Chess.bits("a4"));
        Due.same("g5 by white", pawns.attackers(Chess.square("g5"), 0), Chess.bits("h4"));
        Due.same("h5 by white", pawns.attackers(Chess.square("h5"), 0), 0);
        Due.same("a5 by white", pawns.attackers(Chess.square("a5"), 0), 0);
        Due.same("b4 by black", pawns.attackers(Chess.square("b4"), 1), Chess.bits("a5"));
        Due.same("g4 by black", pawns.attackers(Chess.square("g4"), 1), Chess.bits("h5"));
        Due.same("h6 by white", pawns.attackers(Chess.square("h6"), 0), 0);
        Due.same("b6 by both", pawns.attackers(Chess.square("b6"), 0) | pawns.attackers(Chess.square("b6"), 1), 0);
        Board corners = Chess.board("b6r/8/8/8/8/8/8/R6B w - -");
        Due.same("a8 by white", corners.attackers(56, 0), Chess.bits("a1", "h1"));
        Due.same("h1 by black", corners.attackers(7, 1), Chess.bits("a8", "h8"));
        Due.same("h8 by both", corners.attackers(63, 0) | corners.attackers(63, 1), 0);
        // Castling is no attack.
        Due.same("g1 by a king on e1", Chess.board("8/8/8/8/8/8/8/4K3 w K -").attackers(6, 0), 0);
        Due.same("a queen's own square", Chess.board("8/8/8/8/3Q4/8/8/8 w - -").attackers(27, 0), 0);
        for (int wrong : FAR_OFF) {
            refuses("attackers(" + wrong + ", 0)", INDEX, board, () -> board.attackers(wrong, 0));
            refuses("attackers(" + wrong + ", 2)", INDEX, board, () -> board.attackers(wrong, 2));
            refuses("attackers(0, " + wrong + ")", ARGUMENT, board, () -> board.attackers(0, wrong));
        }
        refuses("attackers(-1, 0)", INDEX, board, () -> board.attackers(-1, 0));
        refuses("attackers(64, -1)", INDEX, board, () -> board.attackers(64, -1));
        refuses("attackers(0, 2)", ARGUMENT, board, () -> board.attackers(0, 2));
        refuses("attackers(0, -1)", ARGUMENT, board, () -> board.attackers(0, -1));
    }

    private static void promise13Check() {
        checks("4k3/8/8/8/8/8/8/4K3 w - -", false, false);
        checks("4k3/8/8/8/4r3/8/8/4K3 w - -", true, false);
        checks("4k3/8/8/8/4R3/8/8/4K3 w - -", false, true);
        checks("4k3/8/8/4p3/4r3/8/4P3/4K3 w - -", false, false);
        checks("8/8/8/3k4/4K3/8/8/8 b - -", true, true);
        checks("8/8/8/3k4/4P3/8/3p4/4K3 b - -", true, true);
        checks("8/8/4P3/3k4/8/8/4K3/3p4 b - -", false, false);
        checks("8/8/2n5/8/3K4/8/8/8 w - -", true, false);
        checks("8/8/8/8/8/8/8/r7 w - -", false, false);
        // One of several kings is enough, the first or the last.
        checks("K6K/8/8/8/8/8/7r/K7 w - -", true, false);
        checks("K6K/8/8/8/8/8/1r6/K7 w - -", false, false);
        checks("k7/8/8/8/8/8/8/k5R1 w - -", false, true);
        Board board = Chess.board("4k3/8/8/8/4r3/8/8/4K3 w - -");
        for (int wrong : FAR_OFF) {
            Due.no("check(" + wrong + ")", board.check(wrong));
        }
        Due.no("check(2)", board.check(2));
        Due.no("check(-1)", board.check(-1));
        Due.no("check(0) of an empty board", new Board().check(0));
        Due.no("check(1) of an empty board", new Board().check(1));
    }

    private static void checks(String fen, boolean white, boolean black) {
        Board board = Chess.board(fen);
        Due.same("check(0) in " + fen, board.check(0) ? 1 : 0, white ? 1 : 0);
        Due.same("check(1) in " + fen, board.check(1) ? 1 : 0, black ? 1 : 0);
    }

    private static void promise14Key() {
        Due.same("key() at first", new Board().key(), 5248703749819718016L);
        Board board = new Board();
        board.begin();
        Due.same("key() behind begin()", board.key(), -4319849861025886312L);
        play(board, "e2e4");
        Due.same("key() behind e2e4", board.key(), 35574102465425814L);
        Due.same("key() of the same set up",
                Chess.board("rnbqkbnr/pppppppp/8/8/4P3/8/PPPP1PPP/RNBQKBNR b KQkq - 7 8").key(), 35574102465425814L);
        // By another way to the same position.
        Board other = new Board();
        other.begin();
        play(other, "g1f3 g8f6 e2e4 f6g8 f3g1");
        Board one = new Board();
        one.begin();
        play(one, "e2e4 g8f6 g1f3 f6g8 f3g1");
        Due.same("key() by two ways", other.key(), one.key());
        // Each part counts by itself.
        long bare = new Board().key();
        Board part = new Board();
        part.state(1, 0, Board.NONE);
        Due.same("SIDE in the key", part.key() ^ bare, m(2000));
        for (int rights = 0; rights <= 15; rights++) {
            part.state(0, rights, Board.NONE);
            Due.same("RIGHTS in the key", part.key() ^ bare, m(900 + rights) ^ m(900));
        }
        for (int passing = -1; passing <= 63; passing++) {
            part.state(0, 0, passing);
            Due.same("PASSING in the key", part.key() ^ bare, m(1000 + passing) ^ m(999));
        }
        part.clear();
        for (int square : new int[] {0, 1, 31, 32, 63}) {
            for (int piece = 0; piece <= 12; piece++) {
                part.put(square, piece);
                Due.same("a piece in the key", part.key() ^ bare, piece == 0 ? 0 : m(64 * piece + square));
            }
            part.put(square, 0);
        }
        part.clocks(50, 60);
        Due.same("clocks are not in the key", part.key(), bare);
    }

    private static long m(long x) {
        x = x + 0x9E3779B97F4A7C15L;
        x = (x ^ (x >>> 30)) * 0xBF58476D1CE4E5B9L;
        x = (x ^ (x >>> 27)) * 0x94D049BB133111EBL;
        return x ^ (x >>> 31);
    }

    private static void promise15Move() {
        Board board = new Board();
        Due.same("move(0) at first", board.move(0), Board.NONE);
        board.begin();
        play(board, "e2e4 e7e5 g1f3");
        Due.same("move(0)", board.move(0), Chess.move("e2e4"));
        Due.same("move(1)", board.move(1), Chess.move("e7e5"));
        Due.same("move(2)", board.move(2), Chess.move("g1f3"));
        int[] none = {3, -1, 4, 599, 600, 601, Integer.MIN_VALUE, Integer.MAX_VALUE};
        for (int i : none) {
            Due.same("move(" + i + ")", board.move(i), Board.NONE);
        }
        board.unmake();
        Due.same("move(2) taken back", board.move(2), Board.NONE);
        Due.same("move(1) not taken back", board.move(1), Chess.move("e7e5"));
    }

    private static void promise16Look() {
        Board board = Chess.board("qqk5/rnbp4/8/8/8/8/P7/KQRBN3 b Kq h6 12 34");
        int[] due = {1, 9, Chess.square("h6"), 12, 34, 13, 0, 1 + 9 + 5 + 3 + 3, 9 + 9 + 5 + 3 + 3 + 1};
        for (int which = 0; which < due.length; which++) {
            Due.same("look(" + which + ")", board.look(which), due[which]);
        }
        for (int wrong : new int[] {-1, 9, 10, 64, Integer.MIN_VALUE, Integer.MAX_VALUE}) {
            Due.same("look(" + wrong + ")", board.look(wrong), Board.NONE);
        }
        int[] worth = {0, 1, 3, 3, 5, 9, 0};
        for (int type = 1; type <= 6; type++) {
            Board alone = new Board();
            alone.put(10, type);
            Due.same("look(7) of " + type, alone.look(7), worth[type]);
            Due.same("look(8) of " + type, alone.look(8), 0);
            alone.put(10, type + 6);
            Due.same("look(7) of " + (type + 6), alone.look(7), 0);
            Due.same("look(8) of " + (type + 6), alone.look(8), worth[type]);
        }
        Board game = new Board();
        game.begin();
        play(game, "e2e4 d7d5 e4d5");
        Due.same("look(5) behind a taking", game.look(5), 31);
        Due.same("look(6) behind three moves", game.look(6), 3);
        Due.same("look(8) behind a taking", game.look(8), 38);
        game.unmake();
        Due.same("look(6) behind one taken back", game.look(6), 2);
        Due.same("look(8) behind one taken back", game.look(8), 39);
    }
}
