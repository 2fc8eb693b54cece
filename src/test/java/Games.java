/** Games that several tests begin with. */
final class Games {
    private Games() {
    }

    static void append(SquopPiles game, String text) {
        for (int k = 0; k < text.length(); k++) {
            game.append(text.charAt(k));
        }
    }

    static SquopPiles withText(String text) {
        SquopPiles game = new SquopPiles();
        append(game, text);
        return game;
    }

    /** All winks of a colour are put into the cup, the top one first. */
    static void pot(SquopPiles game, int colour, int many) {
        for (int w = 3; w > 3 - many; w--) {
            game.put(4 * colour + w, 6, 6);
        }
    }

    /** It is the turn of the colour; each one before it has flown its wink 3 away from its base. */
    static SquopPiles turnOf(int colour) {
        SquopPiles game = new SquopPiles();
        int[] directions = {2, 4, 0};
        for (int before = 0; before < colour; before++) {
            game.fly(4 * before + 3, directions[before], 1);
        }
        return game;
    }

    /** A pile of so many winks, the colours in turn, the top one of the colour 0, to whom it is the turn. */
    static SquopPiles withPile(int x, int y, int many) {
        SquopPiles game = new SquopPiles();
        int[] next = {3, 3, 3, 3};
        for (int left = many - 1; left >= 0; left--) {
            int colour = left % 4;
            game.put(4 * colour + next[colour], x, y);
            next[colour]--;
        }
        return game;
    }

    /** The game is over: the colour 2 has all its winks potted. */
    static SquopPiles over() {
        SquopPiles game = new SquopPiles();
        pot(game, 2, 4);
        return game;
    }

    /** One wink of each colour is left, in a pile beside the cup at (6, 5), the wink 0 on top. */
    static SquopPiles lastFour() {
        SquopPiles game = new SquopPiles();
        for (int colour = 3; colour >= 0; colour--) {
            pot(game, colour, 3);
            game.put(4 * colour, 6, 5);
        }
        return game;
    }
}
