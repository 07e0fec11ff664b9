import java.util.ArrayDeque;
import java.util.ArrayList;
import java.util.Deque;
import java.util.List;
import java.util.Random;
import java.util.TreeSet;

/** Random runs of calls, always the same ones, on a Board and on a slow and simple model of it. */
public final class ModelTest {
    private static final int RUNS = 4000;
    private static final int CALLS = 512;
    private static final int CALLS_AT_END = 13 + 64 + 9 + 1;

    private final Random random;
    private final Board board = new Board();
    private final Model model = new Model();
    private final List<String> told = new ArrayList<>();

    private ModelTest(int run) {
        random = new Random(run);
    }

    public static void main(String[] args) {
        for (int run = 0; run < RUNS && Due.allWell(); run++) {
            new ModelTest(run).go(run);
        }
        Due.end();
    }

    private void go(int run) {
        if (run % 2 == 0) {
            begin();
        } else {
            scatter();
        }
        while (told.size() < CALLS - CALLS_AT_END - 4 && Due.allWell()) {
            step();
            same("key()", board.key(), model.key());
            same("look(3)", board.look(3), model.look(3));
            same("look(6)", board.look(6), model.look(6));
        }
        compareAll();
        if (!Due.allWell()) {
            System.out.println("in run " + run + ": " + told);
        }
    }

    private void step() {
        int dice = random.nextInt(100);
        if (dice < 45) {
            make(anyFitting());
        } else if (dice < 60) {
            unmake();
        } else if (dice < 65) {
            make(anyMove());
        } else if (dice < 77) {
            fits();
        } else if (dice < 78) {
            put(random.nextInt(66) - 1, random.nextInt(15) - 1);
        } else if (dice < 79) {
            setUpState();
        } else {
            ask();
        }
    }

    private void ask() {
        switch (random.nextInt(5)) {
            case 0 -> attackers();
            case 1 -> check(random.nextInt(4) - 1);
            case 2 -> ask("move", random.nextInt(20) - 2);
            case 3 -> ask("look", random.nextInt(12) - 1);
            default -> ask("where", random.nextInt(15) - 1);
        }
    }

    // ---- one call on both

    private void begin() {
        told.add("begin()");
        board.begin();
        model.begin();
    }

    /** Pieces where edges are: kings and rooks at home, pawns near the ends, all else anywhere. */
    private void scatter() {
        int pieces = 4 + random.nextInt(32);
        for (int i = 0; i < pieces; i++) {
            put(random.nextInt(64), random.nextInt(3) == 0 ? 1 + 6 * random.nextInt(2) : random.nextInt(13));
        }
        int[] homes = {0, 4, 7, 56, 60, 63};
        for (int home : homes) {
            if (random.nextInt(5) > 0) {
                put(home, (home % 8 == 4 ? 6 : 4) + (home > 7 ? 6 : 0));
            }
        }
        for (int home : new int[] {1, 2, 3, 5, 6, 57, 58, 59, 61, 62}) {
            if (random.nextInt(3) > 0) {
                put(home, 0);
            }
        }
        setUpState();
        int half = random.nextInt(4) == 0 ? 9999 : random.nextInt(9);
        int full = random.nextInt(4) == 0 ? 9999 : 1 + random.nextInt(9);
        told.add("clocks(" + half + ", " + full + ")");
        board.clocks(half, full);
        model.clocks(half, full);
    }

    private void put(int square, int piece) {
        both("put(" + square + ", " + piece + ")", () -> {
            board.put(square, piece);
            return 0;
        }, () -> {
            model.put(square, piece);
            return 0;
        });
    }

    private void setUpState() {
        int side = random.nextInt(2);
        int rights = random.nextInt(3) == 0 ? random.nextInt(18) - 1 : 15;
        int passing = random.nextInt(66) - 1;
        for (int tries = 0; tries < 40 && !model.passingMatters(side, passing); tries++) {
            passing = random.nextInt(66) - 1;
        }
        int square = passing;
        both("state(" + side + ", " + rights + ", " + passing + ")", () -> {
            board.state(side, rights, square);
            return 0;
        }, () -> {
            model.state(side, rights, square);
            return 0;
        });
    }

    private void make(int move) {
        both("make(" + move + ")", () -> board.make(move), () -> model.make(move));
    }

    private void unmake() {
        both("unmake()", board::unmake, model::unmake);
    }

    private void fits() {
        int move = random.nextBoolean() ? anyFitting() : anyMove();
        same("fits(" + move + ")", board.fits(move) ? 1 : 0, model.moves().contains(move) ? 1 : 0);
    }

    private void attackers() {
        int square = random.nextInt(66) - 1;
        int side = random.nextInt(10) == 0 ? random.nextInt(4) - 1 : random.nextInt(2);
        both("attackers(" + square + ", " + side + ")",
                () -> board.attackers(square, side), () -> model.attackers(square, side));
    }

    private void check(int side) {
        same("check(" + side + ")", board.check(side) ? 1 : 0, model.check(side) ? 1 : 0);
    }

    private void ask(String what, int i) {
        String call = what + "(" + i + ")";
        switch (what) {
            case "move" -> same(call, board.move(i), model.move(i));
            case "look" -> same(call, board.look(i), model.look(i));
            default -> same(call, board.where(i), model.where(i));
        }
    }

    private void compareAll() {
        for (int piece = 0; piece <= 12; piece++) {
            ask("where", piece);
        }
        for (int which = 0; which <= 8; which++) {
            ask("look", which);
        }
        for (int square = 0; square < 64; square++) {
            same("at(" + square + ")", board.at(square), model.at(square));
        }
        same("key()", board.key(), model.key());
    }

    private int anyFitting() {
        List<Integer> moves = new ArrayList<>(model.moves());
        return moves.isEmpty() ? anyMove() : moves.get(random.nextInt(moves.size()));
    }

    /** Often nearly a move: one that fits with a part of it changed. */
    private int anyMove() {
        List<Integer> moves = new ArrayList<>(model.moves());
        if (moves.isEmpty() || random.nextInt(4) == 0) {
            return random.nextBoolean() ? random.nextInt() : random.nextInt(7 * 4096);
        }
        int move = moves.get(random.nextInt(moves.size()));
        return switch (random.nextInt(4)) {
            case 0 -> move ^ 1 << random.nextInt(32);
            case 1 -> move % 4096 + 4096 * random.nextInt(8);
            case 2 -> move & ~63 | random.nextInt(64);
            default -> move & ~(63 * 64) | 64 * random.nextInt(64);
        };
    }

    // ---- comparing

    private interface Answer {
        long get();
    }

    private void both(String call, Answer got, Answer want) {
        told.add(call);
        String gotText = textOf(got);
        String wantText = textOf(want);
        if (!gotText.equals(wantText)) {
            Due.tell(call + " answered " + gotText + ", due is " + wantText);
        }
    }

    private static String textOf(Answer answer) {
        try {
            return Long.toString(answer.get());
        } catch (RuntimeException e) {
            return e.getClass().getName();
        }
    }

    private void same(String call, long got, long want) {
        told.add(call);
        Due.same(call, got, want);
    }

    /** The document once more, in another form: letters on a grid, and whole copies to go back to. */
    private static final class Model {
        private static final String LETTERS = ".PNBRQKpnbrqk";
        private static final int[][] STRAIGHT = {{1, 0}, {-1, 0}, {0, 1}, {0, -1}};
        private static final int[][] SLANTING = {{1, 1}, {-1, 1}, {1, -1}, {-1, -1}};
        private static final int[][] LEAPS =
            {{1, 2}, {2, 1}, {2, -1}, {1, -2}, {-1, -2}, {-2, -1}, {-2, 1}, {-1, 2}};

        private StringBuilder grid = new StringBuilder(".".repeat(64));
        private int side = 0;
        private int rights = 0;
        private int passing = -1;
        private int half = 0;
        private int full = 1;
        private final List<Integer> made = new ArrayList<>();
        private final Deque<Object[]> past = new ArrayDeque<>();
        private TreeSet<Integer> known = null;

        void begin() {
            grid = new StringBuilder("RNBQKBNRPPPPPPPP" + ".".repeat(32) + "pppppppprnbqkbnr");
            side = 0;
            rights = 15;
            passing = -1;
            half = 0;
            full = 1;
            forget();
        }

        void put(int square, int piece) {
            if (square < 0 || square > 63) {
                throw new IndexOutOfBoundsException();
            }
            if (piece < 0 || piece > 12) {
                throw new IllegalArgumentException();
            }
            char before = grid.charAt(square);
            grid.setCharAt(square, LETTERS.charAt(piece));
            if (look(5) > 32) {
                grid.setCharAt(square, before);
                throw new IllegalStateException();
            }
            forget();
        }

        void state(int newSide, int newRights, int newPassing) {
            if (newRights < 0 || newRights > 15 || newPassing < -1 || newPassing > 63) {
                throw new IllegalArgumentException();
            }
            side = newSide;
            rights = newRights;
            passing = newPassing;
            forget();
        }

        void clocks(int newHalf, int newFull) {
            half = newHalf;
            full = newFull;
            forget();
        }

        private void forget() {
            made.clear();
            past.clear();
            known = null;
        }

        boolean passingMatters(int mover, int square) {
            int behind = square + (mover == 0 ? -8 : 8);
            return square >= 0 && square < 64 && behind >= 0 && behind < 64
                && grid.charAt(behind) == (mover == 0 ? 'p' : 'P');
        }

        private boolean isOf(int square, int owner) {
            char letter = grid.charAt(square);
            return owner == 0 ? Character.isUpperCase(letter) : Character.isLowerCase(letter);
        }

        private TreeSet<Integer> attacked(int from) {
            TreeSet<Integer> squares = new TreeSet<>();
            char letter = grid.charAt(from);
            switch (Character.toLowerCase(letter)) {
                case 'p' -> {
                    int up = letter == 'P' ? 1 : -1;
                    walk(from, new int[][] {{1, up}, {-1, up}}, 1, squares);
                }
                case 'n' -> walk(from, LEAPS, 1, squares);
                case 'b' -> walk(from, SLANTING, 8, squares);
                case 'r' -> walk(from, STRAIGHT, 8, squares);
                case 'q', 'k' -> {
                    walk(from, STRAIGHT, Character.toLowerCase(letter) == 'k' ? 1 : 8, squares);
                    walk(from, SLANTING, Character.toLowerCase(letter) == 'k' ? 1 : 8, squares);
                }
                default -> { }
            }
            return squares;
        }

        private void walk(int from, int[][] ways, int far, TreeSet<Integer> squares) {
            for (int[] way : ways) {
                int file = from % 8 + way[0];
                int rank = from / 8 + way[1];
                for (int i = 0; i < far && file >= 0 && file < 8 && rank >= 0 && rank < 8; i++) {
                    squares.add(file + 8 * rank);
                    if (grid.charAt(file + 8 * rank) != '.') {
                        break;
                    }
                    file += way[0];
                    rank += way[1];
                }
            }
        }

        TreeSet<Integer> moves() {
            if (known == null) {
                known = new TreeSet<>();
                for (int from = 0; from < 64; from++) {
                    if (isOf(from, side)) {
                        addMoves(from);
                    }
                }
            }
            return known;
        }

        private void addMoves(int from) {
            char letter = Character.toLowerCase(grid.charAt(from));
            for (int to : attacked(from)) {
                boolean takes = isOf(to, 1 - side);
                if (letter == 'p' ? takes || to == passing && grid.charAt(to) == '.' && passingMatters(side, to)
                        : !isOf(to, side)) {
                    add(from, to);
                }
            }
            if (letter == 'p') {
                addSteps(from);
            }
            if (letter == 'k' && from == (side == 0 ? 4 : 60)) {
                String rank = grid.substring(from - 4, from + 4).toLowerCase();
                char rook = side == 0 ? 'R' : 'r';
                if ((rights >> 2 * side & 1) == 1 && rank.endsWith("k..r") && grid.charAt(from + 3) == rook) {
                    add(from, from + 2);
                }
                if ((rights >> 2 * side & 2) == 2 && rank.startsWith("r...k") && grid.charAt(from - 4) == rook) {
                    add(from, from - 2);
                }
            }
        }

        private void addSteps(int from) {
            int up = side == 0 ? 8 : -8;
            int steps = from / 8 == (side == 0 ? 1 : 6) ? 2 : 1;
            int to = from + up;
            for (int i = 0; i < steps && to >= 0 && to < 64 && grid.charAt(to) == '.'; i++) {
                add(from, to);
                to += up;
            }
        }

        private void add(int from, int to) {
            if ("Kk".indexOf(grid.charAt(to)) >= 0) {
                return;
            }
            boolean pawn = "Pp".indexOf(grid.charAt(from)) >= 0;
            boolean last = pawn && to / 8 == (side == 0 ? 7 : 0);
            for (int kind = last ? 2 : 0; kind <= (last ? 5 : 0); kind++) {
                known.add(from + 64 * to + 4096 * kind);
            }
        }

        int make(int move) {
            if (!moves().contains(move)) {
                throw new IllegalArgumentException();
            }
            if (made.size() == 600) {
                throw new IllegalStateException();
            }
            past.push(new Object[] {grid.toString(), side, rights, passing, half, full});
            made.add(move);
            int from = move % 64;
            int to = move / 64 % 64;
            char letter = grid.charAt(from);
            boolean pawn = "Pp".indexOf(letter) >= 0;
            int up = side == 0 ? 8 : -8;
            int victim = pawn && from % 8 != to % 8 && grid.charAt(to) == '.' ? to - up : to;
            int taken = LETTERS.indexOf(grid.charAt(victim));
            grid.setCharAt(victim, '.');
            grid.setCharAt(from, '.');
            grid.setCharAt(to, move < 4096 ? letter : LETTERS.charAt(move / 4096 + 6 * side));
            boolean king = "Kk".indexOf(letter) >= 0;
            if (king && Math.abs(from - to) == 2) {
                int corner = to > from ? from + 3 : from - 4;
                grid.setCharAt((from + to) / 2, grid.charAt(corner));
                grid.setCharAt(corner, '.');
            }
            rights -= rights & (king ? 3 << 2 * side : 0);
            int[] corners = {7, 0, 63, 56};
            for (int i = 0; i < 4; i++) {
                rights -= rights & (corners[i] == from || corners[i] == to ? 1 << i : 0);
            }
            passing = pawn && to == from + 2 * up && isHunted(from + up) ? from + up : -1;
            half = pawn || taken > 0 ? 0 : half + 1;
            full += side;
            side = 1 - side;
            known = null;
            return taken;
        }

        private boolean isHunted(int square) {
            for (int from = 0; from < 64; from++) {
                if (grid.charAt(from) == (side == 0 ? 'p' : 'P') && attacked(from).contains(square)) {
                    return true;
                }
            }
            return false;
        }

        int unmake() {
            if (made.isEmpty()) {
                throw new IllegalStateException();
            }
            Object[] before = past.pop();
            grid = new StringBuilder((String) before[0]);
            side = (Integer) before[1];
            rights = (Integer) before[2];
            passing = (Integer) before[3];
            half = (Integer) before[4];
            full = (Integer) before[5];
            known = null;
            return made.remove(made.size() - 1);
        }

        int at(int square) {
            return LETTERS.indexOf(grid.charAt(square));
        }

        long where(int piece) {
            long bits = 0;
            for (int square = 63; square >= 0; square--) {
                bits = 2 * bits + (at(square) == piece ? 1 : 0);
            }
            return bits;
        }

        long attackers(int square, int owner) {
            if (square < 0 || square > 63) {
                throw new IndexOutOfBoundsException();
            }
            if (owner < 0 || owner > 1) {
                throw new IllegalArgumentException();
            }
            long bits = 0;
            for (int from = 0; from < 64; from++) {
                bits |= isOf(from, owner) && attacked(from).contains(square) ? 1L << from : 0;
            }
            return bits;
        }

        boolean check(int owner) {
            for (int square = 0; square < 64; square++) {
                if (owner >= 0 && owner <= 1 && grid.charAt(square) == (owner == 0 ? 'K' : 'k')
                        && attackers(square, 1 - owner) != 0) {
                    return true;
                }
            }
            return false;
        }

        long key() {
            long key = m(900 + rights) ^ m(1000 + passing) ^ (side == 1 ? m(2000) : 0);
            for (int square = 0; square < 64; square++) {
                key ^= at(square) > 0 ? m(64 * at(square) + square) : 0;
            }
            return key;
        }

        private static long m(long x) {
            x = x + 0x9E3779B97F4A7C15L;
            x = (x ^ (x >>> 30)) * 0xBF58476D1CE4E5B9L;
            x = (x ^ (x >>> 27)) * 0x94D049BB133111EBL;
            return x ^ (x >>> 31);
        }

        int move(int i) {
            return i >= 0 && i < made.size() ? made.get(i) : -1;
        }

        int look(int which) {
            int[] all = {side, rights, passing, half, full, 64 - Long.bitCount(where(0)), made.size(),
                material("PNBRQ"), material("pnbrq")};
            return which >= 0 && which < all.length ? all[which] : -1;
        }

        private int material(String letters) {
            int sum = 0;
            for (int square = 0; square < 64; square++) {
                int type = letters.indexOf(grid.charAt(square));
                sum += type < 0 ? 0 : new int[] {1, 3, 3, 5, 9}[type];
            }
            return sum;
        }
    }
}
