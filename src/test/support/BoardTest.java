import java.lang.reflect.InvocationTargetException;
import java.lang.reflect.Method;
import java.util.ArrayList;
import java.util.Comparator;
import java.util.List;
import java.util.Set;
import java.util.TreeSet;

/** What the tests of the promises share: they are the methods of a class whose names are promise and a number. */
abstract class BoardTest {
    static final Class<?> INDEX = IndexOutOfBoundsException.class;
    static final Class<?> ARGUMENT = IllegalArgumentException.class;
    static final Class<?> STATE = IllegalStateException.class;

    static final String START = "rnbqkbnr/pppppppp/8/8/8/8/PPPPPPPP/RNBQKBNR w KQkq -";
    static final long START_KEY = -4319849861025886312L;
    static final long EMPTY_KEY = 5248703749819718016L;

    /** Numbers that are no square, piece, side, rights, passing or which. */
    static final int[] NOTHING = {64, 65, 127, 128, 256, 4096, 1 << 16, Integer.MAX_VALUE,
        -2, -7, -8, -63, -64, -65, -256, Integer.MIN_VALUE + 1, Integer.MIN_VALUE};

    private static final int CALLS_OF_AN_OBJECT = 512;
    private static final int CALLS_TO_SET_UP = 34;

    // ---- running them

    static void runAll(Class<?> tests, int firstPromise, int lastPromise) {
        Set<Integer> promises = new TreeSet<>();
        for (Method test : testsOf(tests)) {
            promises.add(promiseOf(test));
            Due.in(test.getName());
            run(test);
        }
        Due.in(tests.getName());
        for (int promise = firstPromise; promise <= lastPromise; promise++) {
            Due.yes("a test of promise " + promise, promises.contains(promise));
        }
        System.out.println(testsOf(tests).size() + " tests of the promises " + promises);
        Due.end();
    }

    private static List<Method> testsOf(Class<?> tests) {
        List<Method> found = new ArrayList<>();
        for (Method method : tests.getDeclaredMethods()) {
            if (method.getName().matches("promise\\d+\\w+")) {
                found.add(method);
            }
        }
        found.sort(Comparator.comparing(BoardTest::promiseOf).thenComparing(Method::getName));
        return found;
    }

    private static int promiseOf(Method test) {
        return Integer.parseInt(test.getName().replaceAll("\\D+(\\d+).*", "$1"));
    }

    private static void run(Method test) {
        try {
            test.invoke(null);
        } catch (InvocationTargetException e) {
            Due.tell("ended with " + e.getCause());
        } catch (IllegalAccessException e) {
            Due.tell("can't be run: " + e);
        }
    }

    // ---- what can be seen

    /** What can be seen of a board, by few calls, for an object promises to answer no more than 512. */
    static String seen(Board board) {
        StringBuilder all = new StringBuilder();
        all.append(board.key()).append(' ');
        for (int which = 3; which <= 6; which++) {
            all.append(board.look(which)).append(' ');
        }
        for (int i = 0, move = board.move(0); i < 30 && move != Board.NONE; move = board.move(++i)) {
            all.append(move).append(' ');
        }
        return all.toString();
    }

    static void unchanged(String call, String before, Board board) {
        String after = seen(board);
        if (!after.equals(before)) {
            Due.tell(call + " left " + after + ", due is " + before);
        }
    }

    /** The call throws that, and changes nothing. */
    static void refuses(String call, Class<?> want, Board board, Due.Call run) {
        String before = seen(board);
        Due.thrown(call, want, run);
        unchanged(call, before, board);
    }

    static void looks(String when, Board board, int... due) {
        for (int which = 0; which < due.length; which++) {
            Due.same(when + ": look(" + which + ")", board.look(which), due[which]);
        }
    }

    static void isAsAtFirst(String when, Board board) {
        Due.same(when + ": where(0)", board.where(0), -1L);
        looks(when, board, 0, 0, Board.NONE, 0, 1, 0, 0, 0, 0);
        Due.same(when + ": key()", board.key(), EMPTY_KEY);
        Due.same(when + ": move(0)", board.move(0), Board.NONE);
        Due.thrown(when + ": unmake()", STATE, board::unmake);
    }

    static void isAtTheBeginning(String when, Board board) {
        String rows = "RNBQKBNRPPPPPPPP" + ".".repeat(32) + "pppppppprnbqkbnr";
        for (int square = 0; square < 64; square++) {
            Due.same(when + ": at(" + square + ")", board.at(square), Chess.piece(rows.charAt(square)));
        }
        looks(when, board, 0, 15, Board.NONE, 0, 1, 32, 0, 39, 39);
        Due.same(when + ": key()", board.key(), START_KEY);
        Due.same(when + ": move(0)", board.move(0), Board.NONE);
        Due.thrown(when + ": unmake()", STATE, board::unmake);
    }

    // ---- playing

    static Board begun(String... moves) {
        Board board = new Board();
        board.begin();
        play(board, moves);
        return board;
    }

    static void play(Board board, String... moves) {
        for (String move : moves) {
            board.make(Chess.move(move));
        }
    }

    static Board alone(int square, int piece) {
        Board board = new Board();
        board.put(square, piece);
        board.state(piece > 6 ? 1 : 0, 0, Board.NONE);
        return board;
    }

    // ---- moves

    static void fitting(String fen, String... moves) {
        for (String move : moves) {
            Due.yes("fits " + move + " in " + fen, Chess.board(fen).fits(Chess.move(move)));
        }
    }

    /** None of them fits, none can be made, and neither call changes anything. */
    static void unfit(String fen, String... moves) {
        for (String move : moves) {
            unfit(fen, move, Chess.move(move));
        }
    }

    static void unfit(String fen, String text, int move) {
        Board board = Chess.board(fen);
        String before = seen(board);
        Due.no("fits " + text + " in " + fen, board.fits(move));
        unchanged("fits " + text + " in " + fen, before, board);
        Due.thrown("make " + text + " in " + fen, ARGUMENT, () -> board.make(move));
        unchanged("make " + text + " in " + fen, before, board);
    }

    /** Of all squares and kinds just these fit; x stands for each kind that a pawn becomes. */
    static void fittingAreJust(String fen, String... moves) {
        Set<Integer> due = new TreeSet<>();
        for (String move : moves) {
            if (move.endsWith("x")) {
                for (String letter : new String[] {"n", "b", "r", "q"}) {
                    due.add(Chess.move(move.replace("x", letter)));
                }
            } else {
                due.add(Chess.move(move));
            }
        }
        fittingAreJust(fen, due);
    }

    static void fittingAreJust(String fen, Set<Integer> due) {
        Board board = Chess.board(fen);
        int calls = CALLS_TO_SET_UP;
        for (int move = 0; move < 8 * 4096; move++) {
            if (calls++ == CALLS_OF_AN_OBJECT) {
                board = Chess.board(fen);
                calls = CALLS_TO_SET_UP + 1;
            }
            if (board.fits(move) != due.contains(move)) {
                Due.tell("fits(" + move + "), " + Chess.text(move) + " in " + fen + ", due is " + due.contains(move));
            }
        }
    }

    /** Makes a move, holds what comes of it against a position, and takes it back. */
    static void making(String fen, String move, int taken, String due) {
        Board board = Chess.board(fen);
        String before = seen(board);
        String what = move + " in " + fen;
        int number = Chess.move(move);
        Due.same("make " + what, board.make(number), taken);
        Due.same("look(6) behind " + what, board.look(6), 1);
        Due.same("move(0) behind " + what, board.move(0), number);
        Board want = Chess.board(due);
        for (int square = 0; square < 64; square++) {
            Due.same("at(" + square + ") behind " + what, board.at(square), want.at(square));
        }
        for (int which = 0; which <= 8; which++) {
            if (which != 6) {
                Due.same("look(" + which + ") behind " + what, board.look(which), want.look(which));
            }
        }
        Due.same("key() behind " + what, board.key(), want.key());
        Due.same("unmake() behind " + what, board.unmake(), number);
        unchanged("unmake() behind " + what, before, board);
    }
}
