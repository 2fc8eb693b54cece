/** The range of each argument: its least and its greatest number, and one beyond each of them. */
final class RangeTests {
    private final Checks checks;

    RangeTests(Checks checks) {
        this.checks = checks;
    }

    void all() {
        checks.test("2 fly: wink is 0 to 15", this::flyWink);
        checks.test("2 fly: direction is 0 to 7", this::flyDirection);
        checks.test("2 fly: force is 1 to 9", this::flyForce);
        checks.test("3 lift: x is 0 to 12", this::liftX);
        checks.test("3 lift: y is 0 to 12", this::liftY);
        checks.test("3 lift: many is 1 to 6", this::liftMany);
        checks.test("3 lift: direction is 0 to 7", this::liftDirection);
        checks.test("4 set: winks is 1 to 6", this::setWinks);
        checks.test("5 put: wink is 0 to 15", this::putWink);
        checks.test("5 put: x is 0 to 12", this::putX);
        checks.test("5 put: y is 0 to 12", this::putY);
        checks.test("6 append: code is 33 to 126", this::appendCode);
        checks.test("13 wink: wink is 0 to 15", this::winkWink);
        checks.test("13 wink: what is 0 to 6", this::winkWhat);
        checks.test("14 pile: x is 0 to 12", this::pileX);
        checks.test("14 pile: y is 0 to 12", this::pileY);
        checks.test("14 pile: what is 0 to 3", this::pileWhat);
        checks.test("15 colour: colour is 0 to 3", this::colourColour);
        checks.test("15 colour: what is 0 to 6", this::colourWhat);
        checks.test("16 count: what is 0 to 13", this::countWhat);
        checks.test("17 why: x is 0 to 12", this::whyX);
        checks.test("17 why: y is 0 to 12", this::whyY);
        checks.test("17 why: many is 1 to 6", this::whyMany);
        checks.test("17 why: direction is 0 to 7", this::whyDirection);
        checks.test("18 lands: wink is 0 to 15", this::landsWink);
        checks.test("18 lands: direction is 0 to 7", this::landsDirection);
        checks.test("18 lands: force is 1 to 9", this::landsForce);
        checks.test("19 ifFlown: wink is 0 to 15", this::ifFlownWink);
        checks.test("19 ifFlown: direction is 0 to 7", this::ifFlownDirection);
        checks.test("19 ifFlown: force is 1 to 9", this::ifFlownForce);
        checks.test("19 ifFlown: what is 0 to 1", this::ifFlownWhat);
        checks.test("21 flightsTo: wink is 0 to 15", this::flightsToWink);
    }

    private void flyWink() {
        SquopPiles game = new SquopPiles();
        Games.pot(game, 0, 3);
        checks.noIndexBeyond(game, 0, 15, wink -> game.fly(wink, 2, 1));
        checks.due("the least", 1, game.fly(0, 2, 1));
        checks.due("the greatest", 13 * 10, Games.turnOf(3).fly(15, 0, 1));
    }

    private void flyDirection() {
        SquopPiles game = new SquopPiles();
        game.put(3, 4, 9);
        checks.noArgumentBeyond(game, 0, 7, direction -> game.fly(3, direction, 1));
        checks.due("the least, north", 13 * 7 + 4, game.fly(3, 0, 1));
        game.undo();
        checks.due("the greatest, north-west", 13 * 7 + 2, game.fly(3, 7, 1));
    }

    private void flyForce() {
        SquopPiles game = new SquopPiles();
        game.put(3, 1, 1);
        game.put(2, 9, 9);
        checks.noArgumentBeyond(game, 1, 9, force -> game.fly(3, 2, force));
        checks.due("the least, small", 13 + 3, game.fly(3, 2, 1));
        game.undo();
        checks.due("the greatest, small", 13 + 11, game.fly(3, 2, 9));
        game.undo();
        checks.due("the least, large", 1, game.fly(1, 2, 1));
        game.undo();
        checks.due("the greatest, large", 9, game.fly(1, 2, 9));
    }

    private void liftX() {
        SquopPiles game = new SquopPiles();
        game.put(3, 0, 5);
        game.put(2, 12, 5);
        checks.noIndexBeyond(game, 0, 12, x -> game.lift(x, 5, 1, 0));
        checks.due("the least", 0, game.lift(0, 5, 1, 0));
        checks.due("it has come", 13 * 4, game.wink(3, 2));
        game.undo();
        checks.due("the greatest", 0, game.lift(12, 5, 1, 0));
        checks.due("it has come", 13 * 4 + 12, game.wink(2, 2));
    }

    private void liftY() {
        SquopPiles game = new SquopPiles();
        game.put(3, 5, 0);
        game.put(2, 5, 12);
        checks.noIndexBeyond(game, 0, 12, y -> game.lift(5, y, 1, 2));
        checks.due("the least", 0, game.lift(5, 0, 1, 2));
        checks.due("it has come", 6, game.wink(3, 2));
        game.undo();
        checks.due("the greatest", 0, game.lift(5, 12, 1, 2));
        checks.due("it has come", 13 * 12 + 6, game.wink(2, 2));
    }

    private void liftMany() {
        SquopPiles game = Games.withPile(4, 4, 7);
        game.set(6);
        checks.noArgumentBeyond(game, 1, 6, many -> game.lift(4, 4, many, 2));
        checks.due("the least", 6, game.lift(4, 4, 1, 2));
        checks.due("one has come", 1, game.pile(5, 4, 0));
        game.undo();
        checks.due("the greatest", 1, game.lift(4, 4, 6, 2));
        checks.due("six have come", 6, game.pile(5, 4, 0));
    }

    private void liftDirection() {
        SquopPiles game = new SquopPiles();
        game.put(3, 4, 9);
        checks.noArgumentBeyond(game, 0, 7, direction -> game.lift(4, 9, 1, direction));
        game.lift(4, 9, 1, 0);
        checks.due("the least, north", 13 * 8 + 4, game.wink(3, 2));
        game.undo();
        game.lift(4, 9, 1, 7);
        checks.due("the greatest, north-west", 13 * 8 + 3, game.wink(3, 2));
    }

    private void setWinks() {
        SquopPiles game = new SquopPiles();
        checks.noArgumentBeyond(game, 1, 6, game::set);
        checks.due("the least", 3, game.set(1));
        checks.due("it is set", 1, game.count(12));
        checks.due("the greatest", 1, game.set(6));
        checks.due("it is set", 6, game.count(12));
    }

    private void putWink() {
        SquopPiles game = new SquopPiles();
        Games.pot(game, 0, 3);
        checks.noIndexBeyond(game, 0, 15, wink -> game.put(wink, 5, 5));
        checks.due("the least", 1, game.put(0, 5, 5));
        checks.due("the greatest", 2, game.put(15, 5, 5));
        checks.due("the bottom", 0, game.pile(5, 5, 2));
        checks.due("the top", 15, game.pile(5, 5, 1));
    }

    private void putX() {
        SquopPiles game = new SquopPiles();
        checks.noIndexBeyond(game, 0, 12, x -> game.put(3, x, 5));
        checks.due("the least", 1, game.put(3, 0, 5));
        checks.due("its cell", 13 * 5, game.wink(3, 2));
        checks.due("the greatest", 1, game.put(3, 12, 5));
        checks.due("its cell", 13 * 5 + 12, game.wink(3, 2));
    }

    private void putY() {
        SquopPiles game = new SquopPiles();
        checks.noIndexBeyond(game, 0, 12, y -> game.put(3, 5, y));
        checks.due("the least", 1, game.put(3, 5, 0));
        checks.due("its cell", 5, game.wink(3, 2));
        checks.due("the greatest", 1, game.put(3, 5, 12));
        checks.due("its cell", 13 * 12 + 5, game.wink(3, 2));
    }

    private void appendCode() {
        SquopPiles game = new SquopPiles();
        checks.noArgumentBeyond(game, 33, 126, game::append);
        checks.due("the least", 1, game.append(33));
        checks.due("the greatest", 2, game.append(126));
        checks.due("both are told", Digests.of(game, false, "!~"), game.digest());
    }

    private void winkWink() {
        SquopPiles game = new SquopPiles();
        checks.noIndexBeyond(game, 0, 15, wink -> game.wink(wink, 0));
        checks.due("the least", 0, game.wink(0, 3));
        checks.due("the greatest", 3, game.wink(15, 3));
        checks.due("the cell of the least", 0, game.wink(0, 2));
        checks.due("the cell of the greatest", 156, game.wink(15, 2));
    }

    private void winkWhat() {
        SquopPiles game = new SquopPiles();
        checks.noArgumentBeyond(game, 0, 6, what -> game.wink(4, what));
        checks.due("the least", 1, game.wink(4, 0));
        checks.due("the greatest", 2, game.wink(4, 6));
    }

    private void pileX() {
        SquopPiles game = new SquopPiles();
        checks.noIndexBeyond(game, 0, 12, x -> game.pile(x, 0, 1));
        checks.due("the least", 3, game.pile(0, 0, 1));
        checks.due("the greatest", 7, game.pile(12, 0, 1));
    }

    private void pileY() {
        SquopPiles game = new SquopPiles();
        checks.noIndexBeyond(game, 0, 12, y -> game.pile(0, y, 1));
        checks.due("the least", 3, game.pile(0, 0, 1));
        checks.due("the greatest", 15, game.pile(0, 12, 1));
    }

    private void pileWhat() {
        SquopPiles game = new SquopPiles();
        checks.noArgumentBeyond(game, 0, 3, what -> game.pile(12, 12, what));
        checks.noArgumentBeyond(game, 0, 3, what -> game.pile(5, 5, what));
        checks.due("the least", 4, game.pile(12, 12, 0));
        checks.due("the greatest", 1 << 2, game.pile(12, 12, 3));
    }

    private void colourColour() {
        SquopPiles game = new SquopPiles();
        game.put(3, 6, 6);
        game.put(15, 6, 6);
        game.put(14, 6, 6);
        checks.noIndexBeyond(game, 0, 3, colour -> game.colour(colour, 0));
        checks.due("the least", 1, game.colour(0, 0));
        checks.due("the greatest", 2, game.colour(3, 0));
    }

    private void colourWhat() {
        SquopPiles game = new SquopPiles();
        game.put(3, 6, 6);
        game.put(2, 12, 0);
        checks.noArgumentBeyond(game, 0, 6, what -> game.colour(0, what));
        checks.due("the least", 1, game.colour(0, 0));
        checks.due("the greatest", 4, game.colour(0, 6));
    }

    private void countWhat() {
        SquopPiles game = Games.turnOf(2);
        checks.noArgumentBeyond(game, 0, 13, game::count);
        game.set(3);
        checks.due("the least", 2, game.count(0));
        checks.due("the greatest", 3, game.count(13));
    }

    private void whyX() {
        SquopPiles game = new SquopPiles();
        game.put(3, 0, 5);
        checks.noIndexBeyond(game, 0, 12, x -> game.why(x, 5, 1, 0));
        checks.due("the least", 0, game.why(0, 5, 1, 0));
        checks.due("none at the greatest", 2, game.why(12, 5, 1, 0));
        game.put(3, 12, 5);
        checks.due("the greatest", 0, game.why(12, 5, 1, 0));
        checks.due("none at the least", 2, game.why(0, 5, 1, 0));
    }

    private void whyY() {
        SquopPiles game = new SquopPiles();
        game.put(3, 5, 0);
        checks.noIndexBeyond(game, 0, 12, y -> game.why(5, y, 1, 2));
        checks.due("the least", 0, game.why(5, 0, 1, 2));
        checks.due("none at the greatest", 2, game.why(5, 12, 1, 2));
        game.put(3, 5, 12);
        checks.due("the greatest", 0, game.why(5, 12, 1, 2));
        checks.due("none at the least", 2, game.why(5, 0, 1, 2));
    }

    private void whyMany() {
        SquopPiles game = Games.withPile(4, 4, 6);
        game.set(6);
        checks.noArgumentBeyond(game, 1, 6, many -> game.why(4, 4, many, 2));
        checks.due("the least", 0, game.why(4, 4, 1, 2));
        checks.due("the greatest", 0, game.why(4, 4, 6, 2));
    }

    private void whyDirection() {
        SquopPiles game = new SquopPiles();
        checks.noArgumentBeyond(game, 0, 7, direction -> game.why(0, 0, 1, direction));
        checks.due("the least", 5, game.why(0, 0, 1, 0));
        checks.due("the greatest", 5, game.why(0, 0, 1, 7));
        game.put(3, 1, 1);
        checks.due("the least on the mat", 0, game.why(1, 1, 1, 0));
        checks.due("the greatest on the mat", 0, game.why(1, 1, 1, 7));
    }

    private void landsWink() {
        SquopPiles game = new SquopPiles();
        checks.noIndexBeyond(game, 0, 15, wink -> game.lands(wink, 2, 1));
        checks.due("the least", 1, game.lands(0, 2, 1));
        checks.due("the greatest", 156 + 2, game.lands(15, 2, 1));
    }

    private void landsDirection() {
        SquopPiles game = new SquopPiles();
        game.put(3, 4, 9);
        checks.noArgumentBeyond(game, 0, 7, direction -> game.lands(3, direction, 1));
        checks.due("the least", 13 * 7 + 4, game.lands(3, 0, 1));
        checks.due("the greatest", 13 * 7 + 2, game.lands(3, 7, 1));
    }

    private void landsForce() {
        SquopPiles game = new SquopPiles();
        checks.noArgumentBeyond(game, 1, 9, force -> game.lands(3, 2, force));
        checks.due("the least, large", 1, game.lands(1, 2, 1));
        checks.due("the greatest, large", 9, game.lands(1, 2, 9));
        checks.due("the least, small", 2, game.lands(2, 2, 1));
        checks.due("the greatest, small", 10, game.lands(2, 2, 9));
    }

    private void ifFlownWink() {
        SquopPiles game = new SquopPiles();
        Games.pot(game, 0, 3);
        checks.noIndexBeyond(game, 0, 15, wink -> game.ifFlown(wink, 2, 1, 0));
        checks.due("the least", 10, game.ifFlown(0, 2, 1, 0));
        checks.due("the greatest", 1 + 1 - 1 - 1, Games.turnOf(3).ifFlown(15, 0, 1, 0));
    }

    private void ifFlownDirection() {
        SquopPiles game = new SquopPiles();
        game.put(3, 4, 9);
        game.put(7, 4, 7);
        game.put(15, 2, 7);
        checks.noArgumentBeyond(game, 0, 7, direction -> game.ifFlown(3, direction, 1, 0));
        checks.due("the least, onto 7", 1 - 1, game.ifFlown(3, 0, 1, 0));
        checks.due("the greatest, onto 15", 1 - 1, game.ifFlown(3, 7, 1, 0));
        checks.due("between them, beyond both", 1 - 2, game.ifFlown(3, 1, 1, 0));
    }

    private void ifFlownForce() {
        SquopPiles game = new SquopPiles();
        game.put(7, 2, 0);
        game.put(15, 10, 0);
        checks.noArgumentBeyond(game, 1, 9, force -> game.ifFlown(3, 2, force, 0));
        checks.due("the least, onto 7", 1 - 1, game.ifFlown(3, 2, 1, 0));
        checks.due("the greatest, onto 15", 1 - 1, game.ifFlown(3, 2, 9, 0));
        checks.due("between them, beyond both", 1 - 2, game.ifFlown(3, 2, 5, 0));
    }

    private void ifFlownWhat() {
        SquopPiles game = new SquopPiles();
        checks.noArgumentBeyond(game, 0, 1, what -> game.ifFlown(3, 2, 1, what));
        checks.due("the least", 1, game.ifFlown(3, 2, 1, 0));
        checks.due("the greatest", 6, game.ifFlown(3, 2, 1, 1));
    }

    private void flightsToWink() {
        SquopPiles game = new SquopPiles();
        checks.noIndexBeyond(game, 0, 15, game::flightsTo);
        game.put(15, 6, 6);
        checks.due("the least", 1, game.flightsTo(0));
        checks.due("the greatest", 0, game.flightsTo(15));
    }
}
