/** The turns, on which the promises 2, 3, 9, 15 and 16 rest. */
final class TurnTests {
    private final Checks checks;

    TurnTests(Checks checks) {
        this.checks = checks;
    }

    void all() {
        checks.test("turns: go round by flights and lifts", this::round);
        checks.test("turns: again behind a potted wink", this::again);
        checks.test("turns: not again behind a potted wink of another, by a lift", this::notAgain);
        checks.test("turns: a lost turn is passed over once", this::lostOnce);
        checks.test("turns: all have lost one", this::allLost);
        checks.test("turns: the game is over by a flight", this::overByFlight);
        checks.test("turns: the game is over by a lift", this::overByLift);
        checks.test("turns: a lost turn behind the last flight", this::lostBehindTheLast);
        checks.test("turns: a colour without a wink left is not passed over", this::lostByThePotted);
        checks.test("turns: the one behind a colour without a wink left is passed over", this::lostBehindThePotted);
        checks.test("turns: all winks are potted", this::allPotted);
    }

    private void round() {
        SquopPiles game = new SquopPiles();
        game.fly(3, 2, 1);
        checks.due("behind 0", 1, game.count(0));
        game.lift(12, 0, 1, 4);
        checks.due("behind 1", 2, game.count(0));
        game.fly(11, 0, 1);
        checks.due("behind 2", 3, game.count(0));
        game.lift(0, 12, 3, 2);
        checks.due("behind 3", 0, game.count(0));
    }

    private void again() {
        SquopPiles game = new SquopPiles();
        checks.due("the first one", 169, game.fly(3, 3, 5));
        checks.due("again", 0, game.count(0));
        checks.due("the second one", 169, game.fly(2, 3, 5));
        checks.due("again", 0, game.count(0));
        game.fly(1, 2, 1);
        checks.due("then the next", 1, game.count(0));
    }

    private void notAgain() {
        SquopPiles game = new SquopPiles();
        game.put(3, 6, 5);
        game.lift(6, 5, 1, 4);
        checks.due("behind the lift", 1, game.count(0));
        checks.due("potted", 1, game.colour(0, 0));
    }

    private void lostOnce() {
        SquopPiles game = new SquopPiles();
        game.fly(3, 1, 1);
        checks.due("lost", 1, game.colour(0, 5));
        game.fly(7, 4, 1);
        game.fly(11, 0, 1);
        checks.due("not passed over yet", 1, game.colour(0, 5));
        game.fly(15, 0, 1);
        checks.due("passed over", 1, game.count(0));
        checks.due("not lost any more", 0, game.colour(0, 5));
        checks.due("still a foul", 1, game.colour(0, 4));
        game.fly(7, 4, 1);
        game.fly(11, 0, 1);
        game.fly(15, 0, 1);
        checks.due("once only", 0, game.count(0));
    }

    private void allLost() {
        SquopPiles game = new SquopPiles();
        checks.due("0", -1, game.fly(3, 1, 1));
        checks.due("1", -1, game.fly(7, 7, 1));
        checks.due("2", -1, game.fly(11, 1, 1));
        checks.due("3", -1, game.fly(15, 7, 1));
        checks.due("the turn", 0, game.count(0));
        for (int colour = 0; colour < 4; colour++) {
            checks.due("lost by " + colour, 0, game.colour(colour, 5));
            checks.due("fouls of " + colour, 1, game.colour(colour, 4));
        }
        checks.due("fouls", 4, game.count(9));
    }

    private void overByFlight() {
        SquopPiles game = new SquopPiles();
        Games.pot(game, 0, 3);
        checks.due("not over", 0, game.count(1));
        checks.due("the last one", 169, game.fly(0, 3, 6));
        checks.due("over", 1, game.count(1));
        checks.due("no turn", -1, game.count(0));
        checks.due("potted", 4, game.colour(0, 0));
        checks.due("why another can not fly", 1, game.wink(7, 6));
        checks.due("no best flight", -1, game.best());
        game.undo();
        checks.due("the turn before", 0, game.count(0));
    }

    private void overByLift() {
        SquopPiles game = new SquopPiles();
        Games.pot(game, 1, 3);
        game.put(4, 7, 7);
        game.put(3, 7, 7);
        checks.due("left", 0, game.lift(7, 7, 2, 7));
        checks.due("over", 1, game.count(1));
        checks.due("no turn", -1, game.count(0));
    }

    /** The words move the turn behind a flight, also behind the last one; so a lost turn is passed over. */
    private void lostBehindTheLast() {
        SquopPiles game = new SquopPiles();
        game.fly(3, 2, 1);
        game.fly(7, 7, 1);
        game.fly(11, 0, 1);
        game.fly(15, 0, 1);
        checks.due("lost by 1", 1, game.colour(1, 5));
        Games.pot(game, 0, 3);
        checks.due("the last one", 169, game.fly(0, 3, 6));
        checks.due("passed over", 0, game.colour(1, 5));
    }

    /** It is no next colour, so that the lost turn is not passed over. */
    private void lostByThePotted() {
        SquopPiles game = new SquopPiles();
        game.fly(3, 2, 1);
        game.fly(7, 7, 1);
        game.fly(11, 0, 1);
        game.fly(15, 0, 1);
        checks.due("lost by 1", 1, game.colour(1, 5));
        Games.pot(game, 1, 3);
        game.put(4, 7, 7);
        game.put(3, 7, 7);
        game.lift(7, 7, 2, 7);
        checks.due("over", 1, game.count(1));
        checks.due("its last one is potted", 4, game.colour(1, 0));
        checks.due("still lost", 1, game.colour(1, 5));
    }

    /** The turn goes on behind the colour that has none, to 2, which has lost one, and then to 3. */
    private void lostBehindThePotted() {
        SquopPiles game = new SquopPiles();
        game.fly(3, 2, 1);
        game.fly(7, 4, 1);
        game.fly(11, 1, 1);
        game.fly(15, 0, 1);
        checks.due("lost by 2", 1, game.colour(2, 5));
        Games.pot(game, 1, 3);
        game.put(4, 7, 7);
        game.put(3, 7, 7);
        game.lift(7, 7, 2, 7);
        checks.due("over", 1, game.count(1));
        checks.due("passed over", 0, game.colour(2, 5));
    }

    private void allPotted() {
        SquopPiles game = Games.lastFour();
        checks.due("one pile", 1, game.count(5));
        game.set(4);
        checks.due("left", 0, game.lift(6, 5, 4, 4));
        checks.due("potted", 16, game.count(2));
        checks.due("no piles", 0, game.count(5));
        checks.due("no highest pile", 0, game.count(6));
        checks.due("over", 1, game.count(1));
        checks.due("points of 0", 24, game.count(10));
        checks.due("points of 1", 24, game.count(11));
    }
}
