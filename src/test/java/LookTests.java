/** Promises 13 to 17: wink, pile, colour, count, why. */
final class LookTests {
    private final Checks checks;

    LookTests(Checks checks) {
        this.checks = checks;
    }

    void all() {
        checks.test("13 wink: colour and size", this::winkKinds);
        checks.test("13 wink: cell, place, covered, flights", this::winkPlaces);
        checks.test("13 wink: why it can not fly", this::winkReasons);
        checks.test("13 wink: wrong arguments", this::winkRefused);
        checks.test("14 pile", this::pile);
        checks.test("14 pile: the wink 0", this::pileOfZero);
        checks.test("14 pile: wrong arguments", this::pileRefused);
        checks.test("15 colour: potted, covered, free", this::colourWinks);
        checks.test("15 colour: points", this::colourPoints);
        checks.test("15 colour: winks of others below", this::colourBelow);
        checks.test("15 colour: wrong arguments", this::colourRefused);
        checks.test("16 count", this::count);
        checks.test("16 count: points of the teams", this::countTeams);
        checks.test("16 count: wrong arguments", this::countRefused);
        checks.test("17 why: each reason", this::why);
        checks.test("17 why: the first reason that is so", this::whyOrder);
        checks.test("17 why: wrong arguments", this::whyRefused);
    }

    private void winkKinds() {
        SquopPiles game = new SquopPiles();
        for (int wink = 0; wink < 16; wink++) {
            checks.due("the colour of " + wink, wink / 4, game.wink(wink, 0));
            checks.due("large " + wink, wink % 4 < 2 ? 1 : 0, game.wink(wink, 1));
        }
    }

    private void winkPlaces() {
        SquopPiles game = new SquopPiles();
        game.fly(3, 3, 5);
        game.fly(2, 2, 1);
        checks.due("the cell of a potted one", -1, game.wink(3, 2));
        checks.due("the place of a potted one", -1, game.wink(3, 3));
        checks.due("a potted one is not covered", 0, game.wink(3, 4));
        checks.due("flights of a potted one", 1, game.wink(3, 5));
        checks.due("the cell", 2, game.wink(2, 2));
        checks.due("the place", 0, game.wink(2, 3));
        checks.due("flights", 1, game.wink(2, 5));
        checks.due("no flights", 0, game.wink(1, 5));
        checks.due("the new top is free", 0, game.wink(1, 4));
        checks.due("0 is covered", 1, game.wink(0, 4));
        game.put(7, 2, 0);
        checks.due("covered by another colour", 1, game.wink(2, 4));
        checks.due("the place on it", 1, game.wink(7, 3));
    }

    private void winkReasons() {
        SquopPiles game = new SquopPiles();
        checks.due("it can fly", 0, game.wink(3, 6));
        checks.due("covered", 4, game.wink(0, 6));
        checks.due("not its turn", 2, game.wink(7, 6));
        checks.due("not its turn, and covered", 2, game.wink(4, 6));
        game.put(3, 6, 6);
        game.put(7, 6, 6);
        checks.due("potted", 3, game.wink(3, 6));
        checks.due("not its turn, and potted", 2, game.wink(7, 6));
        SquopPiles over = Games.over();
        checks.due("over", 1, over.wink(3, 6));
        checks.due("over, and not its turn", 1, over.wink(7, 6));
        checks.due("over, and potted", 1, over.wink(11, 6));
        checks.due("over, and covered", 1, over.wink(0, 6));
    }

    private void winkRefused() {
        SquopPiles game = new SquopPiles();
        checks.noIndex(game, "wink -1", () -> game.wink(-1, 0));
        checks.noIndex(game, "wink 16", () -> game.wink(16, 0));
        checks.noIndex(game, "wink 16 and what 7", () -> game.wink(16, 7));
        checks.noArgument(game, "what -1", () -> game.wink(0, -1));
        checks.noArgument(game, "what 7", () -> game.wink(0, 7));
    }

    private void pile() {
        SquopPiles game = new SquopPiles();
        game.put(15, 12, 5);
        game.put(3, 12, 5);
        game.put(14, 12, 5);
        int[] want = {3, 14, 15, 9};
        int[] empty = {0, -1, -1, 0};
        int[] base = {4, 11, 8, 4};
        for (int what = 0; what < 4; what++) {
            checks.due("a pile, " + what, want[what], game.pile(12, 5, what));
            checks.due("none, " + what, empty[what], game.pile(5, 12, what));
            checks.due("the cup, " + what, empty[what], game.pile(6, 6, what));
            checks.due("a base, " + what, base[what], game.pile(12, 12, what));
        }
        game.put(7, 6, 6);
        checks.due("the cup with a potted wink", 0, game.pile(6, 6, 0));
        checks.due("its colours", 0, game.pile(6, 6, 3));
        game.put(11, 12, 5);
        game.put(6, 12, 5);
        checks.due("all colours", 15, game.pile(12, 5, 3));
    }

    /** The number 0 is a wink as well as any other one. */
    private void pileOfZero() {
        SquopPiles game = new SquopPiles();
        checks.due("the bottom of the base", 0, game.pile(0, 0, 2));
        Games.pot(game, 0, 3);
        game.put(0, 3, 4);
        int[] alone = {1, 0, 0, 1};
        int[] covered = {2, 7, 0, 3};
        for (int what = 0; what < 4; what++) {
            checks.due("alone, " + what, alone[what], game.pile(3, 4, what));
        }
        game.put(7, 3, 4);
        for (int what = 0; what < 4; what++) {
            checks.due("covered, " + what, covered[what], game.pile(3, 4, what));
        }
        checks.due("it is below 1", 1, game.colour(1, 6));
        checks.due("covered, pile by pile", 9, game.count(3));
        checks.due("covered, wink by wink", 9, game.count(4));
        checks.due("piles", 4, game.count(5));
        game.put(15, 3, 4);
        game.put(11, 3, 4);
        game.put(14, 3, 4);
        checks.due("the highest pile", 5, game.count(6));
        game.undo();
        game.undo();
        game.undo();
        game.put(7, 9, 9);
        checks.due("its flight", 13 * 4 + 4, game.fly(0, 2, 1));
        checks.due("flights", 1, game.count(7));
    }

    private void pileRefused() {
        SquopPiles game = new SquopPiles();
        checks.noIndex(game, "x -1", () -> game.pile(-1, 0, 0));
        checks.noIndex(game, "x 13", () -> game.pile(13, 0, 0));
        checks.noIndex(game, "y -1", () -> game.pile(0, -1, 0));
        checks.noIndex(game, "y 13", () -> game.pile(0, 13, 0));
        checks.noIndex(game, "y 13 and what 4", () -> game.pile(0, 13, 4));
        checks.noArgument(game, "what -1", () -> game.pile(0, 0, -1));
        checks.noArgument(game, "what 4", () -> game.pile(0, 0, 4));
    }

    private void colourWinks() {
        SquopPiles game = new SquopPiles();
        game.put(7, 6, 6);
        game.put(6, 5, 5);
        game.put(3, 5, 5);
        checks.due("potted", 1, game.colour(1, 0));
        checks.due("covered", 2, game.colour(1, 1));
        checks.due("free", 1, game.colour(1, 2));
        checks.due("none potted of 0", 0, game.colour(0, 0));
        checks.due("covered of 0", 2, game.colour(0, 1));
        checks.due("free of 0", 2, game.colour(0, 2));
        checks.due("covered of 3", 3, game.colour(3, 1));
        checks.due("free of 3", 1, game.colour(3, 2));
    }

    private void colourPoints() {
        SquopPiles game = new SquopPiles();
        checks.due("on its base", 0, game.colour(0, 3));
        game.put(3, 12, 12);
        checks.due("on the base of another", 1, game.colour(0, 3));
        game.put(2, 12, 12);
        checks.due("one of them covered", 1, game.colour(0, 3));
        game.put(2, 6, 6);
        checks.due("one potted, one free, one on its base", 4, game.colour(0, 3));
        game.put(7, 6, 6);
        checks.due("a potted one of 1", 3, game.colour(1, 3));
        game.put(3, 4, 4);
        game.put(15, 4, 4);
        checks.due("covered by another colour", 3, game.colour(0, 3));
        checks.due("on top of it", 1, game.colour(3, 3));
    }

    private void colourBelow() {
        SquopPiles game = new SquopPiles();
        for (int colour = 0; colour < 4; colour++) {
            checks.due("none below " + colour, 0, game.colour(colour, 6));
        }
        game.put(3, 4, 4);
        game.put(7, 4, 4);
        game.put(6, 4, 4);
        game.put(2, 4, 4);
        game.put(5, 4, 4);
        checks.due("two below 1, each once", 2, game.colour(1, 6));
        checks.due("two below 0", 2, game.colour(0, 6));
        game.put(11, 12, 0);
        checks.due("one below 2", 1, game.colour(2, 6));
        checks.due("none below 3", 0, game.colour(3, 6));
        game.put(15, 4, 4);
        checks.due("five below 3", 5, game.colour(3, 6));
        game.put(15, 6, 6);
        checks.due("none below a potted one", 0, game.colour(3, 6));
    }

    private void colourRefused() {
        SquopPiles game = new SquopPiles();
        checks.noIndex(game, "colour -1", () -> game.colour(-1, 0));
        checks.noIndex(game, "colour 4", () -> game.colour(4, 0));
        checks.noIndex(game, "colour 4 and what 7", () -> game.colour(4, 7));
        checks.noArgument(game, "what -1", () -> game.colour(0, -1));
        checks.noArgument(game, "what 7", () -> game.colour(0, 7));
    }

    private void count() {
        SquopPiles game = new SquopPiles();
        game.fly(3, 3, 5);
        game.fly(2, 1, 1);
        game.lift(12, 0, 2, 4);
        game.put(15, 12, 1);
        game.set(5);
        int[] want = {2, 0, 1, 10, 10, 5, 4, 2, 1, 1, 3, 1, 5, 5};
        for (int what = 0; what < want.length; what++) {
            checks.due("count(" + what + ")", want[what], game.count(what));
        }
        SquopPiles over = Games.over();
        checks.due("no turn when it is over", -1, over.count(0));
        checks.due("over", 1, over.count(1));
    }

    private void countTeams() {
        SquopPiles game = new SquopPiles();
        game.put(3, 6, 6);
        game.put(11, 4, 4);
        game.put(7, 6, 6);
        game.put(6, 6, 6);
        game.put(15, 3, 3);
        checks.due("the team 0", 4, game.count(10));
        checks.due("the team 1", 7, game.count(11));
    }

    private void countRefused() {
        SquopPiles game = new SquopPiles();
        checks.noArgument(game, "-1", () -> game.count(-1));
        checks.noArgument(game, "14", () -> game.count(14));
        checks.noArgument(game, "the least", () -> game.count(Integer.MIN_VALUE));
    }

    private void why() {
        SquopPiles game = new SquopPiles();
        checks.due("it can be", 0, game.why(0, 0, 3, 2));
        checks.due("no pile", 2, game.why(1, 1, 1, 2));
        checks.due("not so many", 2, game.why(0, 0, 5, 2));
        checks.due("the cup", 2, game.why(6, 6, 1, 2));
        checks.due("not its turn", 3, game.why(12, 0, 1, 4));
        checks.due("more than the setting", 4, game.why(0, 0, 4, 2));
        int[] beside = {5, 5, 0, 0, 0, 5, 5, 5};
        for (int direction = 0; direction < 8; direction++) {
            checks.due("from (0, 0) in " + direction, beside[direction], game.why(0, 0, 1, direction));
        }
        game.put(3, 12, 12);
        int[] besideCorner = {0, 5, 5, 5, 5, 5, 0, 0};
        for (int direction = 0; direction < 8; direction++) {
            checks.due("from (12, 12) in " + direction, besideCorner[direction], game.why(12, 12, 1, direction));
        }
        checks.due("a foreign wink below", 0, game.why(12, 12, 2, 0));
        checks.due("over", 1, Games.over().why(0, 0, 1, 2));
    }

    private void whyOrder() {
        SquopPiles game = new SquopPiles();
        checks.due("2 before 3", 2, game.why(12, 0, 5, 1));
        checks.due("3 before 4", 3, game.why(12, 0, 4, 1));
        checks.due("3 before 5", 3, game.why(12, 0, 1, 1));
        checks.due("4 before 5", 4, game.why(0, 0, 4, 7));
        checks.due("1 before 2", 1, Games.over().why(1, 1, 6, 0));
        checks.due("1 before 3", 1, Games.over().why(12, 0, 1, 4));
    }

    private void whyRefused() {
        SquopPiles game = new SquopPiles();
        checks.noIndex(game, "x -1", () -> game.why(-1, 0, 1, 0));
        checks.noIndex(game, "x 13", () -> game.why(13, 0, 1, 0));
        checks.noIndex(game, "y -1", () -> game.why(0, -1, 1, 0));
        checks.noIndex(game, "y 13", () -> game.why(0, 13, 1, 0));
        checks.noIndex(game, "y 13 and many 0", () -> game.why(0, 13, 0, 0));
        checks.noArgument(game, "many 0", () -> game.why(0, 0, 0, 0));
        checks.noArgument(game, "many 7", () -> game.why(0, 0, 7, 0));
        checks.noArgument(game, "direction -1", () -> game.why(0, 0, 1, -1));
        checks.noArgument(game, "direction 8", () -> game.why(0, 0, 1, 8));
        SquopPiles over = Games.over();
        checks.noArgument(over, "many 7 when it is over", () -> over.why(0, 0, 7, 0));
    }
}
