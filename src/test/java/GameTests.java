/** Promises 1 to 5: a new object, fly, lift, set, put. */
final class GameTests {
    private final Checks checks;

    GameTests(Checks checks) {
        this.checks = checks;
    }

    void all() {
        checks.test("1 a new object: winks", this::newWinks);
        checks.test("1 a new object: piles and counts", this::newCounts);
        checks.test("1 a new object: no text, snapshot or saved state", this::newRest);
        checks.test("2 fly: every direction, large and small", this::flyDirections);
        checks.test("2 fly: on top of a pile, and what it frees", this::flyOnPile);
        checks.test("2 fly: into the cup and over it", this::flyToCup);
        checks.test("2 fly: bounces", this::flyBounces);
        checks.test("2 fly: off the mat", this::flyOff);
        checks.test("2 fly: back to its own cell", this::flyToOwnCell);
        checks.test("2 fly: wrong arguments and states", this::flyRefused);
        checks.test("3 lift: part of a pile", this::liftPart);
        checks.test("3 lift: every direction", this::liftDirections);
        checks.test("3 lift: frees, and covers in order", this::liftOrder);
        checks.test("3 lift: into the cup", this::liftToCup);
        checks.test("3 lift: winks potted together lie apart then", this::liftApart);
        checks.test("3 lift: wrong arguments", this::liftArguments);
        checks.test("3 lift: wrong states", this::liftStates);
        checks.test("4 set", this::setting);
        checks.test("4 set: wrong arguments", this::setRefused);
        checks.test("5 put: piles and the turn", this::putPiles);
        checks.test("5 put: the cup, and out of it", this::putCup);
        checks.test("5 put: on its own cell", this::putOwnCell);
        checks.test("5 put: wrong arguments and states", this::putRefused);
    }

    private void newWinks() {
        SquopPiles game = new SquopPiles();
        int[] bases = {0, 12, 168, 156};
        for (int wink = 0; wink < 16; wink++) {
            checks.due("the cell of " + wink, bases[wink / 4], game.wink(wink, 2));
            checks.due("the place of " + wink, wink % 4, game.wink(wink, 3));
            checks.due("covered " + wink, wink % 4 == 3 ? 0 : 1, game.wink(wink, 4));
            checks.due("flights of " + wink, 0, game.wink(wink, 5));
        }
    }

    private void newCounts() {
        SquopPiles game = new SquopPiles();
        int[] want = {0, 0, 0, 12, 12, 4, 4, 0, 0, 0, 0, 0, 3, 0};
        for (int what = 0; what < want.length; what++) {
            checks.due("count(" + what + ")", want[what], game.count(what));
        }
        for (int colour = 0; colour < 4; colour++) {
            checks.due("fouls of " + colour, 0, game.colour(colour, 4));
            checks.due("lost turns of " + colour, 0, game.colour(colour, 5));
        }
    }

    private void newRest() {
        SquopPiles game = new SquopPiles();
        checks.due("firstError()", 0, game.firstError());
        checks.due("clearBuffer()", 0, game.clearBuffer());
        checks.noState(game, "goBack()", game::goBack);
        checks.noState(game, "undo()", game::undo);
    }

    /** From (5, 5) a wink reaches every cell around it by its force, or by one less if it is small. */
    private void flyDirections() {
        int[] east = {0, 1, 1, 1, 0, -1, -1, -1};
        int[] south = {-1, -1, 0, 1, 1, 1, 0, -1};
        for (int direction = 0; direction < 8; direction++) {
            SquopPiles small = new SquopPiles();
            small.put(3, 5, 5);
            int smallCell = 13 * (5 + 3 * south[direction]) + 5 + 3 * east[direction];
            checks.due("small, " + direction, smallCell, small.fly(3, direction, 2));
            checks.due("the cell of the small one", smallCell, small.wink(3, 2));
            SquopPiles large = new SquopPiles();
            large.put(3, 10, 6);
            large.put(2, 10, 6);
            large.put(1, 5, 5);
            int largeCell = 13 * (5 + 2 * south[direction]) + 5 + 2 * east[direction];
            checks.due("large, " + direction, largeCell, large.fly(1, direction, 2));
            checks.due("the cell of the large one", largeCell, large.wink(1, 2));
        }
    }

    private void flyOnPile() {
        SquopPiles game = new SquopPiles();
        checks.due("fly to (12, 0)", -1, game.lands(3, 1, 1));
        game.put(3, 1, 0);
        checks.due("the flight", 11, game.fly(3, 2, 9));
        game.undo();
        game.put(3, 3, 0);
        checks.due("the flight on the base", 12, game.fly(3, 2, 8));
        checks.due("the top", 3, game.pile(12, 0, 1));
        checks.due("the height", 5, game.pile(12, 0, 0));
        checks.due("7 is covered", 1, game.wink(7, 4));
        checks.due("2 is free", 0, game.wink(2, 4));
        checks.due("why 7 can not fly", 4, game.wink(7, 6));
        checks.due("flights of 3", 1, game.wink(3, 5));
        checks.due("flights", 1, game.count(7));
    }

    private void flyToCup() {
        SquopPiles game = new SquopPiles();
        checks.due("over the cup", 98, game.fly(3, 3, 6));
        checks.due("none is potted", 0, game.count(2));
        checks.due("into the cup", 169, game.fly(7, 5, 5));
        checks.due("one is potted", 1, game.count(2));
        checks.due("its cell", -1, game.wink(7, 2));
        checks.due("its place", -1, game.wink(7, 3));
        checks.due("it is not covered", 0, game.wink(7, 4));
        checks.due("6 is free", 0, game.wink(6, 4));
        checks.due("the cup has no pile", 0, game.pile(6, 6, 0));
    }

    private void flyBounces() {
        SquopPiles game = new SquopPiles();
        checks.due("north from the edge", 26, game.fly(3, 0, 1));
        game.undo();
        checks.due("west from the edge", 2, game.fly(3, 6, 1));
        game.undo();
        checks.due("north-west from the corner", 28, game.fly(3, 7, 1));
        game.undo();
        game.put(3, 10, 3);
        checks.due("east, in the middle of the flight", 13 * 3 + 9, game.fly(3, 2, 4));
        game.undo();
        checks.due("back over itself", 13 * 3 + 7, game.fly(3, 2, 6));
        game.undo();
        game.put(3, 6, 8);
        checks.due("into the cup behind a bounce", 169, game.fly(3, 4, 9));
    }

    private void flyOff() {
        SquopPiles game = new SquopPiles();
        checks.due("at once", -1, game.fly(3, 1, 1));
        checks.due("its cell", 0, game.wink(3, 2));
        checks.due("its place", 3, game.wink(3, 3));
        checks.due("its fouls", 1, game.colour(0, 4));
        checks.due("its lost turns", 1, game.colour(0, 5));
        checks.due("fouls", 1, game.count(9));
        checks.due("flights", 1, game.count(7));
        checks.due("flights of 3", 1, game.wink(3, 5));
        checks.due("the turn", 1, game.count(0));
        game = new SquopPiles();
        game.put(3, 2, 1);
        game.put(7, 0, 0);
        checks.due("by the second bounce", -1, game.fly(3, 1, 5));
        checks.due("it is on its base", 0, game.wink(3, 2));
        checks.due("on top of what lies there", 4, game.wink(3, 3));
        checks.due("7 is covered", 1, game.wink(7, 4));
        game = new SquopPiles();
        game.put(3, 2, 1);
        checks.due("a step less", 13 * 3, game.fly(3, 1, 3));
    }

    private void flyToOwnCell() {
        SquopPiles game = new SquopPiles();
        game.put(3, 1, 0);
        game.put(2, 1, 0);
        checks.due("the flight", 1, game.fly(2, 6, 1));
        checks.due("its place", 1, game.wink(2, 3));
        checks.due("the height", 2, game.pile(1, 0, 0));
        checks.due("3 is covered", 1, game.wink(3, 4));
        checks.due("2 is free", 0, game.wink(2, 4));
        checks.due("the turn", 1, game.count(0));
    }

    private void flyRefused() {
        SquopPiles game = new SquopPiles();
        checks.noIndex(game, "wink -1", () -> game.fly(-1, 0, 1));
        checks.noIndex(game, "wink 16", () -> game.fly(16, 0, 1));
        checks.noIndex(game, "wink 16 and direction 8", () -> game.fly(16, 8, 0));
        checks.noIndex(game, "the greatest wink", () -> game.fly(Integer.MAX_VALUE, 0, 1));
        checks.noIndex(game, "the least wink", () -> game.fly(Integer.MIN_VALUE, 0, 1));
        checks.noArgument(game, "direction -1", () -> game.fly(3, -1, 1));
        checks.noArgument(game, "direction 8", () -> game.fly(3, 8, 1));
        checks.noArgument(game, "force 0", () -> game.fly(3, 0, 0));
        checks.noArgument(game, "force 10", () -> game.fly(3, 0, 10));
        checks.noArgument(game, "force 10 of a covered wink", () -> game.fly(0, 0, 10));
        checks.noState(game, "a covered wink", () -> game.fly(2, 0, 1));
        checks.noState(game, "not its turn", () -> game.fly(7, 0, 1));
        game.put(3, 6, 6);
        checks.noState(game, "a potted wink", () -> game.fly(3, 0, 1));
        SquopPiles over = Games.over();
        checks.noState(over, "the game is over", () -> over.fly(3, 0, 1));
    }

    private void liftPart() {
        SquopPiles game = new SquopPiles();
        checks.due("two of four", 2, game.lift(0, 0, 2, 2));
        checks.due("the bottom there", 2, game.pile(1, 0, 2));
        checks.due("the top there", 3, game.pile(1, 0, 1));
        checks.due("the top left", 1, game.pile(0, 0, 1));
        checks.due("1 is free", 0, game.wink(1, 4));
        checks.due("2 is covered", 1, game.wink(2, 4));
        checks.due("the place of 3", 1, game.wink(3, 3));
        checks.due("lifts", 1, game.count(8));
        checks.due("flights", 0, game.count(7));
        checks.due("the turn", 1, game.count(0));
        game.set(6);
        checks.due("a whole pile", 0, game.lift(12, 0, 4, 4));
        checks.due("nothing is left", -1, game.pile(12, 0, 1));
        checks.due("its height", 4, game.pile(12, 1, 0));
    }

    private void liftDirections() {
        int[] cells = {13 * 2 + 3, 13 * 2 + 4, 13 * 3 + 4, 13 * 4 + 4, 13 * 4 + 3, 13 * 4 + 2, 13 * 3 + 2, 13 * 2 + 2};
        for (int direction = 0; direction < 8; direction++) {
            SquopPiles game = new SquopPiles();
            game.put(3, 3, 3);
            checks.due("left in " + direction, 0, game.lift(3, 3, 1, direction));
            checks.due("the cell in " + direction, cells[direction], game.wink(3, 2));
        }
    }

    private void liftOrder() {
        SquopPiles game = new SquopPiles();
        game.put(7, 5, 5);
        game.put(11, 5, 5);
        game.put(15, 5, 5);
        game.put(3, 5, 5);
        game.put(6, 4, 5);
        checks.due("three of four", 1, game.lift(5, 5, 3, 6));
        checks.due("7 is free", 0, game.wink(7, 4));
        checks.due("6 is covered", 1, game.wink(6, 4));
        checks.due("the place of 6", 0, game.wink(6, 3));
        checks.due("the place of 11", 1, game.wink(11, 3));
        checks.due("the place of 15", 2, game.wink(15, 3));
        checks.due("the place of 3", 3, game.wink(3, 3));
        checks.due("7 can fly", 0, game.wink(7, 6));
    }

    private void liftToCup() {
        SquopPiles game = new SquopPiles();
        game.put(7, 5, 5);
        game.put(11, 5, 5);
        game.put(3, 5, 5);
        checks.due("two of three", 1, game.lift(5, 5, 2, 3));
        checks.due("potted", 2, game.count(2));
        checks.due("3 is potted", -1, game.wink(3, 2));
        checks.due("11 is potted", -1, game.wink(11, 2));
        checks.due("11 is not covered", 0, game.wink(11, 4));
        checks.due("7 is free", 0, game.wink(7, 4));
        checks.due("it is not the turn again", 1, game.count(0));
        checks.due("no flight", 0, game.wink(3, 5));
        checks.due("the cup has no pile", -1, game.pile(6, 6, 1));
    }

    private void liftApart() {
        SquopPiles game = new SquopPiles();
        game.put(11, 5, 5);
        game.put(7, 5, 5);
        game.put(3, 5, 5);
        game.lift(5, 5, 3, 3);
        game.put(11, 2, 2);
        game.put(15, 2, 2);
        checks.due("7 out of the cup", 3, game.put(7, 2, 2));
        checks.due("11 is still covered", 1, game.wink(11, 4));
        checks.due("15 is covered", 1, game.wink(15, 4));
        checks.due("3 out of the cup", 1, game.put(3, 9, 9));
        checks.due("7 is still free", 0, game.wink(7, 4));
        checks.due("7 is on top", 7, game.pile(2, 2, 1));
        checks.due("the place of 3", 0, game.wink(3, 3));
        game.put(7, 1, 1);
        checks.due("15 is free", 0, game.wink(15, 4));
        checks.due("3 is free", 0, game.wink(3, 4));
        checks.due("0 is covered on its base", 1, game.wink(0, 4));
    }

    private void liftArguments() {
        SquopPiles game = new SquopPiles();
        checks.noIndex(game, "x -1", () -> game.lift(-1, 0, 1, 2));
        checks.noIndex(game, "x 13", () -> game.lift(13, 0, 1, 2));
        checks.noIndex(game, "y -1", () -> game.lift(0, -1, 1, 2));
        checks.noIndex(game, "y 13", () -> game.lift(0, 13, 1, 2));
        checks.noIndex(game, "x 13 and many 0", () -> game.lift(13, 0, 0, 2));
        checks.noIndex(game, "a great x", () -> game.lift(Integer.MAX_VALUE, Integer.MIN_VALUE, 1, 2));
        checks.noArgument(game, "many 0", () -> game.lift(0, 0, 0, 2));
        checks.noArgument(game, "many 7", () -> game.lift(0, 0, 7, 2));
        checks.noArgument(game, "direction -1", () -> game.lift(0, 0, 1, -1));
        checks.noArgument(game, "direction 8", () -> game.lift(0, 0, 1, 8));
        checks.noArgument(game, "direction 8 of no pile", () -> game.lift(4, 4, 1, 8));
    }

    private void liftStates() {
        SquopPiles game = new SquopPiles();
        checks.noState(game, "no pile", () -> game.lift(4, 4, 1, 0));
        checks.noState(game, "the cup", () -> game.lift(6, 6, 1, 0));
        checks.noState(game, "five of four", () -> game.lift(0, 0, 5, 2));
        checks.noState(game, "the pile of another", () -> game.lift(12, 0, 1, 4));
        checks.noState(game, "more than the setting", () -> game.lift(0, 0, 4, 2));
        checks.noState(game, "beyond the mat", () -> game.lift(0, 0, 1, 0));
        checks.noState(game, "beyond the mat, west", () -> game.lift(0, 0, 1, 5));
        SquopPiles over = Games.over();
        checks.noState(over, "the game is over", () -> over.lift(0, 0, 1, 2));
    }

    private void setting() {
        SquopPiles game = new SquopPiles();
        checks.due("at first", 3, game.set(6));
        checks.due("then", 6, game.set(1));
        checks.due("then", 1, game.set(1));
        checks.due("the setting", 1, game.count(12));
        checks.due("saved states", 3, game.count(13));
        checks.due("the turn stays", 0, game.count(0));
        checks.noState(game, "two are too many", () -> game.lift(0, 0, 2, 2));
        checks.due("one is not", 3, game.lift(0, 0, 1, 2));
        SquopPiles over = Games.over();
        checks.due("when the game is over", 3, over.set(2));
    }

    private void setRefused() {
        SquopPiles game = new SquopPiles();
        checks.noArgument(game, "0", () -> game.set(0));
        checks.noArgument(game, "7", () -> game.set(7));
        checks.noArgument(game, "the least", () -> game.set(Integer.MIN_VALUE));
        checks.due("saved states", 0, game.count(13));
    }

    private void putPiles() {
        SquopPiles game = new SquopPiles();
        checks.due("the first one", 1, game.put(15, 2, 9));
        checks.due("the second one", 2, game.put(3, 2, 9));
        checks.due("the cell", 13 * 9 + 2, game.wink(3, 2));
        checks.due("the top", 3, game.pile(2, 9, 1));
        checks.due("the bottom", 15, game.pile(2, 9, 2));
        checks.due("the turn stays", 0, game.count(0));
        checks.due("no flights", 0, game.count(7));
        checks.due("no lifts", 0, game.count(8));
        checks.due("saved states", 2, game.count(13));
    }

    private void putCup() {
        SquopPiles game = new SquopPiles();
        checks.due("into the cup", 0, game.put(7, 6, 6));
        checks.due("potted", 1, game.count(2));
        checks.due("into the cup again", 0, game.put(7, 6, 6));
        checks.due("still potted", 1, game.count(2));
        checks.due("saved states", 2, game.count(13));
        checks.due("out of it", 4, game.put(7, 12, 0));
        checks.due("none is potted", 0, game.count(2));
        checks.due("its place", 3, game.wink(7, 3));
        checks.due("6 is covered", 1, game.wink(6, 4));
    }

    private void putOwnCell() {
        SquopPiles game = new SquopPiles();
        checks.due("the height", 4, game.put(3, 0, 0));
        checks.due("its place", 3, game.wink(3, 3));
        checks.due("it is free", 0, game.wink(3, 4));
        checks.due("2 is covered", 1, game.wink(2, 4));
        checks.due("saved, though nothing changed", 1, game.count(13));
    }

    private void putRefused() {
        SquopPiles game = new SquopPiles();
        checks.noIndex(game, "wink -1", () -> game.put(-1, 0, 0));
        checks.noIndex(game, "wink 16", () -> game.put(16, 0, 0));
        checks.noIndex(game, "x -1", () -> game.put(3, -1, 0));
        checks.noIndex(game, "x 13", () -> game.put(3, 13, 0));
        checks.noIndex(game, "y -1", () -> game.put(3, 0, -1));
        checks.noIndex(game, "y 13", () -> game.put(3, 0, 13));
        checks.noIndex(game, "y 13 of a covered wink", () -> game.put(2, 0, 13));
        checks.noState(game, "a covered wink", () -> game.put(2, 1, 1));
        checks.noState(game, "a covered wink on its own cell", () -> game.put(0, 0, 0));
        SquopPiles over = Games.over();
        checks.noState(over, "the game is over", () -> over.put(3, 1, 1));
        checks.noState(over, "out of the cup when it is over", () -> over.put(11, 1, 1));
    }
}
