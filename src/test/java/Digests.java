/** The hash of promise 24, by the answers of the other calls. */
final class Digests {
    private Digests() {
    }

    static long of(SquopPiles game, boolean hasSnapshot, String buffer) {
        long hash = 3823;
        for (int what = 0; what <= 13; what++) {
            hash = 31 * hash + game.count(what);
        }
        for (int wink = 0; wink < 16; wink++) {
            for (int what = 0; what <= 6; what++) {
                hash = 31 * hash + game.wink(wink, what);
            }
            hash = 31 * hash + game.lands(wink, 3, 5);
            hash = 31 * hash + game.flightsTo(wink);
        }
        for (int colour = 0; colour < 4; colour++) {
            for (int what = 0; what <= 6; what++) {
                hash = 31 * hash + game.colour(colour, what);
            }
        }
        for (int cell = 0; cell < 169; cell++) {
            for (int what = 0; what <= 3 && game.pile(cell % 13, cell / 13, 0) > 0; what++) {
                hash = 31 * hash + game.pile(cell % 13, cell / 13, what);
            }
        }
        hash = 31 * hash + game.best();
        hash = 31 * hash + Double.doubleToLongBits(game.pottedShare());
        hash = 31 * hash + Float.floatToIntBits(game.meanPile());
        hash = 31 * hash + (hasSnapshot ? 1 : 0);
        hash = 31 * hash + buffer.length();
        for (int k = 0; k < buffer.length(); k++) {
            hash = 31 * hash + buffer.charAt(k);
        }
        return hash;
    }
}
