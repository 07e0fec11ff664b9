/**
 * A position of chess, set up or reached by moves that are made and taken back.
 *
 * <p>Inside, a side is 0 (white) or 1 (black), a type is 1 .. 6 (pawn .. king) whatever the side,
 * and a piece is a type and a side in one number, as the document counts them.
 */
public final class Board {
    /** There is none. */
    public static final int NONE = -1;

    private static final int SQUARES = 64;
    private static final int LAST_PIECE = 12;
    private static final int MOST_ON_BOARD = 32;
    private static final int MOST_MADE = 600;
    private static final int MOST_ON_CLOCK = 9999;
    private static final int ALL_RIGHTS = 15;

    private static final int WHITE = 0;
    private static final int BLACK = 1;

    private static final int EMPTY = 0;
    private static final int PAWN = 1;
    private static final int KNIGHT = 2;
    private static final int BISHOP = 3;
    private static final int ROOK = 4;
    private static final int QUEEN = 5;
    private static final int KING = 6;

    private static final int[] FIRST_RANK = {ROOK, KNIGHT, BISHOP, QUEEN, KING, BISHOP, KNIGHT, ROOK};

    private final int[] board = new int[SQUARES];
    private int side;
    private int rights;
    private int passing;
    private int half;
    private int full;

    // What it takes to take moves back: row i belongs to the move i, rows from made on are unused.
    private int made;
    private final int[] moves = new int[MOST_MADE];
    private final int[] takenPieces = new int[MOST_MADE];
    private final int[] takenSquares = new int[MOST_MADE];
    private final int[] rightsBefore = new int[MOST_MADE];
    private final int[] passingBefore = new int[MOST_MADE];
    private final int[] halfBefore = new int[MOST_MADE];

    public Board() {
        setAllAsAtFirst();
    }

    public void clear() {
        setAllAsAtFirst();
    }

    public void begin() {
        setAllAsAtFirst();
        for (int file = 0; file < FIRST_RANK.length; file++) {
            board[file] = pieceOf(FIRST_RANK[file], WHITE);
            board[8 + file] = pieceOf(PAWN, WHITE);
            board[48 + file] = pieceOf(PAWN, BLACK);
            board[56 + file] = pieceOf(FIRST_RANK[file], BLACK);
        }
        rights = ALL_RIGHTS;
    }

    public void put(int square, int piece)
            throws IndexOutOfBoundsException, IllegalArgumentException, IllegalStateException {
        if (!isSquare(square)) {
            throw new IndexOutOfBoundsException("no such square");
        }
        if (piece < EMPTY || piece > LAST_PIECE) {
            throw new IllegalArgumentException("no such piece");
        }
        if (piece != EMPTY && board[square] == EMPTY && piecesOnBoard() >= MOST_ON_BOARD) {
            throw new IllegalStateException("the board has 32 pieces");
        }
        board[square] = piece;
        forgetMoves();
    }

    public void state(int side, int rights, int passing) throws IllegalArgumentException {
        if (!isSide(side)) {
            throw new IllegalArgumentException("no such side");
        }
        if (rights < 0 || rights > ALL_RIGHTS) {
            throw new IllegalArgumentException("no such rights");
        }
        if (passing != NONE && !isSquare(passing)) {
            throw new IllegalArgumentException("passing is neither a square nor NONE");
        }
        this.side = side;
        this.rights = rights;
        this.passing = passing;
        forgetMoves();
    }

    public void clocks(int half, int full) throws IllegalArgumentException {
        if (half < 0 || half > MOST_ON_CLOCK) {
            throw new IllegalArgumentException("half is not 0 .. 9999");
        }
        if (full < 1 || full > MOST_ON_CLOCK) {
            throw new IllegalArgumentException("full is not 1 .. 9999");
        }
        this.half = half;
        this.full = full;
        forgetMoves();
    }

    public boolean fits(int move) {
        if (move < 0) {
            return false;
        }
        int from = fromOf(move);
        int to = toOf(move);
        return sideOf(board[from]) == side
                && sideOf(board[to]) != side
                && typeOf(board[to]) != KING
                && becomesWhatItMay(board[from], to, kindOf(move))
                && goes(from, to);
    }

    public int make(int move) throws IllegalArgumentException, IllegalStateException {
        if (!fits(move)) {
            throw new IllegalArgumentException("no move of the position");
        }
        if (made >= MOST_MADE) {
            throw new IllegalStateException("600 moves can be taken back");
        }
        int from = fromOf(move);
        int to = toOf(move);
        int piece = board[from];
        int takenSquare = squareTaken(from, to);
        int taken = board[takenSquare];
        remember(move, taken, takenSquare);
        carryOver(move, takenSquare);
        rights &= ~(rightsOfKing(piece) | rightOfCorner(from) | rightOfCorner(to));
        passing = passingBehind(from, to);
        half = typeOf(piece) == PAWN || taken != EMPTY ? 0 : half + 1;
        full = side == BLACK ? full + 1 : full;
        side = otherThan(side);
        return taken;
    }

    public int unmake() throws IllegalStateException {
        if (made <= 0) {
            throw new IllegalStateException("no move can be taken back");
        }
        made--;
        int move = moves[made];
        rights = rightsBefore[made];
        passing = passingBefore[made];
        half = halfBefore[made];
        side = otherThan(side);
        full = side == BLACK ? full - 1 : full;
        carryBack(move, takenPieces[made], takenSquares[made]);
        return move;
    }

    public int at(int square) throws IndexOutOfBoundsException {
        if (!isSquare(square)) {
            throw new IndexOutOfBoundsException("no such square");
        }
        return board[square];
    }

    public long where(int piece) {
        long squares = 0;
        for (int square = 0; square < SQUARES; square++) {
            if (board[square] == piece) {
                squares |= 1L << square;
            }
        }
        return squares;
    }

    public long attackers(int square, int side) throws IndexOutOfBoundsException, IllegalArgumentException {
        if (!isSquare(square)) {
            throw new IndexOutOfBoundsException("no such square");
        }
        if (!isSide(side)) {
            throw new IllegalArgumentException("no such side");
        }
        long squares = 0;
        for (int from = 0; from < SQUARES; from++) {
            if (sideOf(board[from]) == side && attacks(from, square)) {
                squares |= 1L << from;
            }
        }
        return squares;
    }

    public boolean check(int side) {
        if (!isSide(side)) {
            return false;
        }
        // Any number of kings can be set up; one that is attacked is enough.
        for (int square = 0; square < SQUARES; square++) {
            if (board[square] == pieceOf(KING, side) && attackers(square, otherThan(side)) != 0) {
                return true;
            }
        }
        return false;
    }

    public long key() {
        long key = mixed(900 + rights) ^ mixed(1000 + passing);
        if (side == BLACK) {
            key ^= mixed(2000);
        }
        for (int square = 0; square < SQUARES; square++) {
            if (board[square] != EMPTY) {
                key ^= mixed(64 * board[square] + square);
            }
        }
        return key;
    }

    public int move(int i) {
        return i >= 0 && i < made ? moves[i] : NONE;
    }

    public int look(int which) {
        switch (which) {
            case 0:
                return side;
            case 1:
                return rights;
            case 2:
                return passing;
            case 3:
                return half;
            case 4:
                return full;
            case 5:
                return piecesOnBoard();
            case 6:
                return made;
            case 7:
                return material(WHITE);
            case 8:
                return material(BLACK);
            default:
                return NONE;
        }
    }

    private void setAllAsAtFirst() {
        for (int square = 0; square < SQUARES; square++) {
            board[square] = EMPTY;
        }
        side = WHITE;
        rights = 0;
        passing = NONE;
        half = 0;
        full = 1;
        forgetMoves();
    }

    private void forgetMoves() {
        made = 0;
    }

    private int piecesOnBoard() {
        return SQUARES - Long.bitCount(where(EMPTY));
    }

    private int material(int side) {
        int sum = 0;
        for (int square = 0; square < SQUARES; square++) {
            if (sideOf(board[square]) == side) {
                sum += worthOf(typeOf(board[square]));
            }
        }
        return sum;
    }

    // ---- whether something is a move of the position

    private static boolean becomesWhatItMay(int piece, int to, int kind) {
        boolean atLastRank = typeOf(piece) == PAWN && rankOf(to) == lastRankOf(sideOf(piece));
        return atLastRank ? kind >= KNIGHT && kind <= QUEEN : kind == 0;
    }

    private boolean goes(int from, int to) {
        switch (typeOf(board[from])) {
            case PAWN:
                return pawnSteps(from, to) || pawnTakes(from, to);
            case KING:
                return attacks(from, to) || castles(from, to);
            default:
                return attacks(from, to);
        }
    }

    private boolean pawnSteps(int from, int to) {
        int next = from + 8 * onward(side);
        if (!isFree(next) || !isFree(to)) {
            return false;
        }
        boolean twoRanks = rankOf(from) == secondRankOf(side) && to == next + 8 * onward(side);
        return to == next || twoRanks;
    }

    private boolean pawnTakes(int from, int to) {
        return pawnAttacks(side, from, to)
                && (sideOf(board[to]) == otherThan(side) || canBeTakenInPassing(to));
    }

    private boolean canBeTakenInPassing(int square) {
        return square == passing && isFree(square)
                && holds(squareBehind(square), pieceOf(PAWN, otherThan(side)));
    }

    /** The square a rank back, as the side to move looks at it; there may be none such. */
    private int squareBehind(int square) {
        return square - 8 * onward(side);
    }

    private boolean castles(int from, int to) {
        if (from != homeOfKing(side) || !isTwoFilesAway(from, to)) {
            return false;
        }
        int corner = cornerBeyond(from, to);
        return (rights & rightOfCorner(corner)) != 0
                && holds(corner, pieceOf(ROOK, side))
                && isOpen(from, corner);
    }

    // ---- attacks

    private boolean attacks(int from, int to) {
        if (from == to) {
            return false;
        }
        int piece = board[from];
        int wide = Math.abs(fileOf(to) - fileOf(from));
        int high = Math.abs(rankOf(to) - rankOf(from));
        boolean straight = wide == 0 || high == 0;
        boolean slanting = wide == high;
        switch (typeOf(piece)) {
            case PAWN:
                return pawnAttacks(sideOf(piece), from, to);
            case KNIGHT:
                return wide * high == 2;
            case BISHOP:
                return slanting && isOpen(from, to);
            case ROOK:
                return straight && isOpen(from, to);
            case QUEEN:
                return (straight || slanting) && isOpen(from, to);
            case KING:
                return wide <= 1 && high <= 1;
            default:
                return false;
        }
    }

    private static boolean pawnAttacks(int side, int from, int to) {
        return rankOf(to) - rankOf(from) == onward(side) && Math.abs(fileOf(to) - fileOf(from)) == 1;
    }

    /** Whether all squares between two on one straight or slanting line are empty. */
    private boolean isOpen(int from, int to) {
        int files = fileOf(to) - fileOf(from);
        int ranks = rankOf(to) - rankOf(from);
        int step = Integer.compare(files, 0) + 8 * Integer.compare(ranks, 0);
        int steps = Math.max(Math.abs(files), Math.abs(ranks));
        for (int i = 1; i < steps; i++) {
            if (!isFree(from + i * step)) {
                return false;
            }
        }
        return true;
    }

    // ---- making a move and taking it back

    private int squareTaken(int from, int to) {
        boolean pawnTakes = typeOf(board[from]) == PAWN && pawnAttacks(side, from, to);
        return pawnTakes && canBeTakenInPassing(to) ? squareBehind(to) : to;
    }

    private void remember(int move, int taken, int takenSquare) {
        moves[made] = move;
        takenPieces[made] = taken;
        takenSquares[made] = takenSquare;
        rightsBefore[made] = rights;
        passingBefore[made] = passing;
        halfBefore[made] = half;
        made++;
    }

    private void carryOver(int move, int takenSquare) {
        int from = fromOf(move);
        int to = toOf(move);
        int kind = kindOf(move);
        int piece = board[from];
        if (isCastling(piece, from, to)) {
            shift(cornerBeyond(from, to), (from + to) / 2);
        }
        board[takenSquare] = EMPTY;
        board[from] = EMPTY;
        board[to] = kind == 0 ? piece : pieceOf(kind, side);
    }

    private void carryBack(int move, int taken, int takenSquare) {
        int from = fromOf(move);
        int to = toOf(move);
        int piece = kindOf(move) == 0 ? board[to] : pieceOf(PAWN, side);
        // In this order: the square of what was taken is most often the one that is left.
        board[to] = EMPTY;
        board[takenSquare] = taken;
        board[from] = piece;
        if (isCastling(piece, from, to)) {
            shift((from + to) / 2, cornerBeyond(from, to));
        }
    }

    private void shift(int from, int to) {
        if (isSquare(from) && isSquare(to)) {
            board[to] = board[from];
            board[from] = EMPTY;
        }
    }

    private static boolean isCastling(int piece, int from, int to) {
        return typeOf(piece) == KING && isTwoFilesAway(from, to);
    }

    /** What PASSING becomes by the move of a piece that has come to its new square. */
    private int passingBehind(int from, int to) {
        if (typeOf(board[to]) != PAWN || Math.abs(to - from) != 16) {
            return NONE;
        }
        int passed = (from + to) / 2;
        int other = otherThan(side);
        for (int square = 0; square < SQUARES; square++) {
            if (board[square] == pieceOf(PAWN, other) && pawnAttacks(other, square, passed)) {
                return passed;
            }
        }
        return NONE;
    }

    // ---- squares

    private boolean isFree(int square) {
        return isSquare(square) && board[square] == EMPTY;
    }

    private boolean holds(int square, int piece) {
        return isSquare(square) && board[square] == piece;
    }

    private static boolean isSquare(int square) {
        return square >= 0 && square < SQUARES;
    }

    private static int fileOf(int square) {
        return square & 7;
    }

    private static int rankOf(int square) {
        return square >> 3;
    }

    private static boolean isTwoFilesAway(int from, int to) {
        return rankOf(from) == rankOf(to) && Math.abs(to - from) == 2;
    }

    /** The corner of the rook with which a king castles that goes so. */
    private static int cornerBeyond(int from, int to) {
        return to > from ? from + 3 : from - 4;
    }

    private static int rightOfCorner(int square) {
        switch (square) {
            case 7:
                return 1;
            case 0:
                return 2;
            case 63:
                return 4;
            case 56:
                return 8;
            default:
                return 0;
        }
    }

    // ---- sides and pieces

    private static boolean isSide(int side) {
        return side == WHITE || side == BLACK;
    }

    private static int otherThan(int side) {
        return 1 - side;
    }

    private static int onward(int side) {
        return side == WHITE ? 1 : -1;
    }

    private static int secondRankOf(int side) {
        return side == WHITE ? 1 : 6;
    }

    private static int lastRankOf(int side) {
        return side == WHITE ? 7 : 0;
    }

    private static int homeOfKing(int side) {
        return side == WHITE ? 4 : 60;
    }

    private static int pieceOf(int type, int side) {
        return type + 6 * side;
    }

    private static int typeOf(int piece) {
        return piece > KING ? piece - 6 : piece;
    }

    private static int sideOf(int piece) {
        if (piece == EMPTY) {
            return NONE;
        }
        return piece > KING ? BLACK : WHITE;
    }

    private static int worthOf(int type) {
        switch (type) {
            case PAWN:
                return 1;
            case KNIGHT:
            case BISHOP:
                return 3;
            case ROOK:
                return 5;
            case QUEEN:
                return 9;
            default:
                return 0;
        }
    }

    private static int rightsOfKing(int piece) {
        if (typeOf(piece) != KING) {
            return 0;
        }
        return sideOf(piece) == WHITE ? 1 + 2 : 4 + 8;
    }

    // ---- the parts of a move, which is not negative

    private static int fromOf(int move) {
        return move & 63;
    }

    private static int toOf(int move) {
        return move >> 6 & 63;
    }

    private static int kindOf(int move) {
        return move >> 12;
    }

    // ---- the key

    private static long mixed(long x) {
        x = x + 0x9E3779B97F4A7C15L;
        x = (x ^ x >>> 30) * 0xBF58476D1CE4E5B9L;
        x = (x ^ x >>> 27) * 0x94D049BB133111EBL;
        return x ^ x >>> 31;
    }
}
