/** Squares, moves and positions as chess players write them. */
final class Chess {
    private Chess() {
    }

    /** The square of a name such as e4; NONE of "-". */
    static int square(String name) {
        return name.equals("-") ? Board.NONE : name.charAt(0) - 'a' + 8 * (name.charAt(1) - '1');
    }

    /** The move of a text such as e2e4 or a7a8q. */
    static int move(String text) {
        int kind = text.length() < 5 ? 0 : "..nbrq".indexOf(text.charAt(4));
        return move(square(text.substring(0, 2)), square(text.substring(2, 4)), kind);
    }

    static int move(int from, int to, int kind) {
        return from + 64 * to + 4096 * kind;
    }

    static String name(int square) {
        return "" + (char) ('a' + square % 8) + (char) ('1' + square / 8);
    }

    /** A move of a kind 0 .. 7 as a text; a kind that is none is written as its number. */
    static String text(int move) {
        int kind = move / 4096;
        String end = kind == 0 ? "" : kind >= 2 && kind <= 5 ? "..nbrq".substring(kind, kind + 1) : "=" + kind;
        return name(move % 64) + name(move / 64 % 64) + end;
    }

    /** The piece of a letter of FEN, 0 for a dot. */
    static int piece(char letter) {
        return ".PNBRQKpnbrqk".indexOf(letter);
    }

    static long bits(String... names) {
        long bits = 0;
        for (String name : names) {
            bits |= 1L << square(name);
        }
        return bits;
    }

    /** A new board with a position in FEN; the clocks may be left out. */
    static Board board(String fen) {
        Board board = new Board();
        String[] parts = fen.split(" ");
        int square = 56;
        for (char letter : parts[0].toCharArray()) {
            if (letter == '/') {
                square -= 16;
            } else if (letter >= '1' && letter <= '8') {
                square += letter - '0';
            } else {
                board.put(square++, piece(letter));
            }
        }
        board.state(parts[1].equals("w") ? 0 : 1, rights(parts[2]), square(parts[3]));
        if (parts.length > 4) {
            board.clocks(Integer.parseInt(parts[4]), Integer.parseInt(parts[5]));
        }
        return board;
    }

    private static int rights(String letters) {
        int rights = 0;
        for (char letter : letters.toCharArray()) {
            rights |= letter == '-' ? 0 : 1 << "KQkq".indexOf(letter);
        }
        return rights;
    }
}
