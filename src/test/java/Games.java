/** Games that several tests begin with. */
final class Games {
    private Games() {
    }

    static void append(SquopPiles game, String text) {
        for (int k = 0; k < text.length(); k++) {
            game.append(text.charAt(k));
        }
    }

    static SquopPiles withText(String text) {
        SquopPiles game = new SquopPiles();
        append(game, text);
        return game;
    }

    /** All winks of a colour are put into the cup, the top one first. */
    static void pot(SquopPiles game, int colour, int many) {
        for (int w = 3; w > 3 - many; w--) {
            game.put(4 * colour + w, 6, 6);
        }
    }

    /** The game is over: the colour 2 has all its winks potted. */
    static SquopPiles over() {
        SquopPiles game = new SquopPiles();
        pot(game, 2, 4);
        return game;
    }

    /** One wink of each colour is left, in a pile beside the cup at (6, 5), the wink 0 on top. */
    static SquopPiles lastFour() {
        SquopPiles game = new SquopPiles();
        for (int colour = 3; colour >= 0; colour--) {
            pot(game, colour, 3);
            game.put(4 * colour, 6, 5);
        }
        return game;
    }
}
