/** Promises 10 to 12: keep, goBack, undo. */
final class PastTests {
    private final Checks checks;

    PastTests(Checks checks) {
        this.checks = checks;
    }

    void all() {
        checks.test("10 keep", this::keep);
        checks.test("10 keep: in place of the one that was", this::keepAgain);
        checks.test("11 goBack: all comes back, but the buffer", this::goBack);
        checks.test("11 goBack: undoable, and the snapshot stays", this::goBackUndo);
        checks.test("11 goBack: without a snapshot", this::goBackRefused);
        checks.test("12 undo: each undoable call", this::undoEach);
        checks.test("12 undo: at most 6, the oldest is dropped", this::undoSix);
        checks.test("12 undo: leaves the snapshot and the buffer", this::undoLeaves);
        checks.test("12 undo: without a saved state", this::undoRefused);
        checks.test("12 undo: out of the end of a game", this::undoEnd);
    }

    private void keep() {
        SquopPiles game = new SquopPiles();
        long before = game.digest();
        checks.due("none is potted", 0, game.keep());
        checks.isTrue("the digest tells the snapshot", before != game.digest());
        checks.due("saved states", 0, game.count(13));
        game.put(3, 6, 6);
        game.put(7, 6, 6);
        checks.due("two are potted", 2, game.keep());
        checks.due("saved states", 2, game.count(13));
    }

    private void keepAgain() {
        SquopPiles game = new SquopPiles();
        game.keep();
        game.set(1);
        game.keep();
        game.set(2);
        game.goBack();
        checks.due("the later one", 1, game.count(12));
    }

    private void goBack() {
        SquopPiles game = new SquopPiles();
        game.set(4);
        game.fly(3, 1, 1);
        game.lift(12, 0, 2, 4);
        game.keep();
        game.fly(11, 0, 2);
        game.fly(15, 7, 1);
        game.set(1);
        game.put(3, 6, 6);
        Games.append(game, "f1");
        checks.due("potted then", 0, game.goBack());
        checks.due("the setting", 4, game.count(12));
        checks.due("the turn", 2, game.count(0));
        checks.due("flights", 1, game.count(7));
        checks.due("flights of 11", 0, game.wink(11, 5));
        checks.due("flights of 3", 1, game.wink(3, 5));
        checks.due("lifts", 1, game.count(8));
        checks.due("fouls", 1, game.count(9));
        checks.due("fouls of 3", 0, game.colour(3, 4));
        checks.due("lost by 0", 1, game.colour(0, 5));
        checks.due("lost by 3", 0, game.colour(3, 5));
        checks.due("the cell of 3", 0, game.wink(3, 2));
        checks.due("the cell of 11", 168, game.wink(11, 2));
        checks.due("the pile of the lift", 2, game.pile(12, 1, 0));
        checks.due("the buffer stays", 2, game.clearBuffer());
    }

    private void goBackUndo() {
        SquopPiles game = new SquopPiles();
        game.put(3, 6, 6);
        game.keep();
        game.put(7, 6, 6);
        checks.due("potted then", 1, game.goBack());
        checks.due("saved states", 3, game.count(13));
        checks.due("left", 2, game.undo());
        checks.due("potted again", 2, game.count(2));
        checks.due("back once more", 1, game.goBack());
        checks.due("and once more", 1, game.goBack());
        game.put(7, 1, 1);
        checks.due("the snapshot is not what it goes on with", 1, game.goBack());
        checks.due("the cell of 7", 12, game.wink(7, 2));
    }

    private void goBackRefused() {
        SquopPiles game = new SquopPiles();
        game.set(2);
        checks.noState(game, "goBack()", game::goBack);
        checks.due("saved states", 1, game.count(13));
    }

    private void undoEach() {
        SquopPiles game = new SquopPiles();
        game.keep();
        Games.append(game, "f335");
        long[] digests = new long[6];
        digests[0] = game.digest();
        game.fly(3, 1, 1);
        digests[1] = game.digest();
        game.lift(12, 0, 2, 4);
        digests[2] = game.digest();
        game.set(6);
        digests[3] = game.digest();
        game.put(11, 12, 1);
        digests[4] = game.digest();
        game.goBack();
        digests[5] = game.digest();
        game.play();
        Games.append(game, "f335");
        for (int k = 5; k >= 0; k--) {
            checks.due("left", k, game.undo());
            checks.due("the digest " + k, digests[k], game.digest());
        }
    }

    private void undoSix() {
        SquopPiles game = new SquopPiles();
        int[] settings = {1, 2, 4, 5, 6, 1, 2, 4, 5, 6};
        for (int k = 0; k < settings.length; k++) {
            game.set(settings[k]);
            checks.due("saved states", Math.min(6, k + 1), game.count(13));
        }
        for (int k = 5; k >= 0; k--) {
            checks.due("left", k, game.undo());
            checks.due("the setting", settings[k + 3], game.count(12));
        }
        checks.noState(game, "the seventh", game::undo);
        game.set(3);
        checks.due("saved again", 1, game.count(13));
        game.undo();
        checks.due("the setting then", 5, game.count(12));
    }

    private void undoLeaves() {
        SquopPiles game = new SquopPiles();
        game.set(2);
        game.keep();
        Games.append(game, "f3");
        game.undo();
        checks.due("the buffer", 2, game.clearBuffer());
        game.goBack();
        checks.due("the snapshot", 2, game.count(12));
    }

    private void undoRefused() {
        SquopPiles game = new SquopPiles();
        checks.noState(game, "at first", game::undo);
        game.set(2);
        game.undo();
        checks.noState(game, "when all are dropped", game::undo);
        checks.due("saved states", 0, game.count(13));
    }

    private void undoEnd() {
        SquopPiles game = Games.over();
        checks.due("over", 1, game.count(1));
        game.undo();
        checks.due("not over", 0, game.count(1));
        checks.due("the turn", 0, game.count(0));
        game.fly(3, 2, 1);
        checks.due("it goes on", 1, game.count(0));
    }
}
