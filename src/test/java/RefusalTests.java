/** The order of the exceptions in each throws clause, and that a call that throws changes nothing. */
final class RefusalTests {
    /** A call on a game that is handed to it. */
    private interface Step {
        void on(SquopPiles game);
    }

    private final Checks checks;

    RefusalTests(Checks checks) {
        this.checks = checks;
    }

    void all() {
        checks.test("2 fly: a wrong wink before all else", this::flyIndexFirst);
        checks.test("2 fly: a wrong direction or force before the state", this::flyArgumentBeforeState);
        checks.test("2 fly: each state in which it can not fly", this::flyStates);
        checks.test("2 fly: a call that throws changes nothing", this::flyChangesNothing);
        checks.test("3 lift: a wrong cell before all else", this::liftIndexFirst);
        checks.test("3 lift: a wrong many or direction before the state", this::liftArgumentBeforeState);
        checks.test("3 lift: each state in which it can not be lifted", this::liftStates);
        checks.test("3 lift: a call that throws changes nothing", this::liftChangesNothing);
        checks.test("4 set: a call that throws changes nothing", this::setChangesNothing);
        checks.test("5 put: a wrong wink or cell before the state", this::putIndexFirst);
        checks.test("5 put: each state in which it can not be put", this::putStates);
        checks.test("5 put: a call that throws changes nothing", this::putChangesNothing);
        checks.test("6 append: a wrong code before the full buffer", this::appendArgumentFirst);
        checks.test("6 append: a call that throws changes nothing", this::appendChangesNothing);
        checks.test("9 play: a call that throws changes nothing", this::playChangesNothing);
        checks.test("11 goBack: a call that throws changes nothing", this::goBackChangesNothing);
        checks.test("12 undo: a call that throws changes nothing", this::undoChangesNothing);
        checks.test("13 wink: a wrong wink before a wrong what", this::winkOrder);
        checks.test("14 pile: a wrong cell before a wrong what", this::pileOrder);
        checks.test("15 colour: a wrong colour before a wrong what", this::colourOrder);
        checks.test("17 why: a wrong cell before a wrong many or direction", this::whyOrder);
        checks.test("17 why: a wrong many or direction in every state", this::whyInEveryState);
        checks.test("18 lands: a wrong wink before a wrong direction or force", this::landsOrder);
        checks.test("18 lands: a wrong direction or force of a potted wink", this::landsOfPotted);
        checks.test("19 ifFlown: a wrong wink before all else", this::ifFlownOrder);
        checks.test("19 ifFlown: wrong numbers of a wink that can not fly", this::ifFlownOfUnable);
        checks.test("13 to 24: a look changes nothing", this::looksChangeNothing);
    }

    /** Six saved states, a snapshot and a text; the wink 7 is potted, and it is the turn of 0. */
    private static SquopPiles rich() {
        SquopPiles game = new SquopPiles();
        game.put(7, 6, 6);
        game.fly(3, 3, 3);
        game.set(2);
        game.keep();
        game.lift(12, 0, 1, 4);
        game.fly(11, 1, 1);
        game.set(4);
        game.fly(15, 2, 3);
        game.put(11, 3, 3);
        Games.append(game, "f335;x");
        return game;
    }

    /** A hash of all that a game still can tell: what is, each saved state, and the snapshot. */
    private static long traceOf(SquopPiles game) {
        long trace = game.digest();
        for (int k = 0; k < 6 && game.count(13) > 0; k++) {
            game.undo();
            trace = 31 * trace + game.digest();
        }
        try {
            game.goBack();
            trace = 31 * trace + game.digest();
        } catch (IllegalStateException e) {
            trace = 31 * trace;
        }
        return trace;
    }

    private void sameBehind(String what, Step refused) {
        SquopPiles game = rich();
        boolean thrown = false;
        try {
            refused.on(game);
        } catch (RuntimeException e) {
            thrown = true;
        }
        checks.isTrue(what + " throws", thrown);
        checks.due("the trace behind " + what, traceOf(rich()), traceOf(game));
    }

    private void flyIndexFirst() {
        SquopPiles[] games = {new SquopPiles(), Games.over(), rich()};
        for (SquopPiles game : games) {
            checks.noIndex(game, "direction 8", () -> game.fly(16, 8, 1));
            checks.noIndex(game, "force 0", () -> game.fly(-1, 0, 0));
            checks.noIndex(game, "both", () -> game.fly(16, -1, 10));
            checks.noIndex(game, "neither", () -> game.fly(-1, 0, 1));
        }
    }

    private void flyArgumentBeforeState() {
        SquopPiles game = rich();
        for (int wink : new int[] {0, 6, 7}) {
            checks.noArgument(game, "direction -1 of " + wink, () -> game.fly(wink, -1, 1));
            checks.noArgument(game, "direction 8 of " + wink, () -> game.fly(wink, 8, 1));
            checks.noArgument(game, "force 0 of " + wink, () -> game.fly(wink, 0, 0));
            checks.noArgument(game, "force 10 of " + wink, () -> game.fly(wink, 0, 10));
        }
        SquopPiles over = Games.over();
        checks.noArgument(over, "direction 8 when it is over", () -> over.fly(3, 8, 1));
        checks.noArgument(over, "force 0 when it is over", () -> over.fly(3, 0, 0));
    }

    private void flyStates() {
        SquopPiles game = new SquopPiles();
        for (int wink = 0; wink < 16; wink++) {
            int one = wink;
            if (wink != 3) {
                checks.noState(game, "at first the wink " + wink, () -> game.fly(one, 2, 1));
            }
        }
        game.put(3, 6, 6);
        checks.noState(game, "potted", () -> game.fly(3, 2, 1));
        game.put(7, 0, 0);
        checks.noState(game, "covered by another colour", () -> game.fly(2, 2, 1));
        SquopPiles over = Games.over();
        for (int wink = 0; wink < 16; wink++) {
            int one = wink;
            checks.noState(over, "over, the wink " + wink, () -> over.fly(one, 2, 1));
        }
    }

    private void flyChangesNothing() {
        sameBehind("fly of no wink", game -> game.fly(16, 0, 1));
        sameBehind("fly in no direction", game -> game.fly(3, 8, 1));
        sameBehind("fly with no force", game -> game.fly(3, 0, 0));
        sameBehind("fly of a covered wink", game -> game.fly(0, 0, 1));
        sameBehind("fly of a potted wink", game -> game.fly(7, 0, 1));
        sameBehind("fly of another colour's wink", game -> game.fly(14, 0, 1));
    }

    private void liftIndexFirst() {
        SquopPiles[] games = {new SquopPiles(), Games.over(), rich()};
        for (SquopPiles game : games) {
            checks.noIndex(game, "x and many", () -> game.lift(13, 0, 0, 0));
            checks.noIndex(game, "x and direction", () -> game.lift(-1, 0, 1, 8));
            checks.noIndex(game, "y and many", () -> game.lift(0, 13, 7, 0));
            checks.noIndex(game, "y and direction", () -> game.lift(0, -1, 1, -1));
            checks.noIndex(game, "all", () -> game.lift(-1, 13, 7, 8));
            checks.noIndex(game, "a cell number that is right together", () -> game.lift(-13, 1, 1, 2));
            checks.noIndex(game, "x beyond its row", () -> game.lift(13, 3, 1, 2));
        }
    }

    private void liftArgumentBeforeState() {
        SquopPiles[] games = {new SquopPiles(), Games.over()};
        int[] cells = {0, 12, 168, 5, 6};
        for (SquopPiles game : games) {
            for (int cell : cells) {
                int x = cell % 13;
                int y = cell / 13;
                checks.noArgument(game, "many 0 at " + cell, () -> game.lift(x, y, 0, 0));
                checks.noArgument(game, "many 7 at " + cell, () -> game.lift(x, y, 7, 0));
                checks.noArgument(game, "direction -1 at " + cell, () -> game.lift(x, y, 1, -1));
                checks.noArgument(game, "direction 8 at " + cell, () -> game.lift(x, y, 6, 8));
            }
        }
    }

    private void liftStates() {
        SquopPiles game = new SquopPiles();
        checks.noState(game, "2: no pile", () -> game.lift(5, 5, 1, 2));
        checks.noState(game, "2: five of four", () -> game.lift(0, 0, 5, 2));
        checks.noState(game, "2: the cup", () -> game.lift(6, 6, 1, 2));
        checks.noState(game, "3: another colour's", () -> game.lift(12, 12, 1, 0));
        checks.noState(game, "4: more than the setting", () -> game.lift(0, 0, 4, 2));
        checks.noState(game, "5: no cell", () -> game.lift(0, 0, 3, 1));
        game.put(3, 6, 6);
        checks.noState(game, "2: the cup with a potted wink", () -> game.lift(6, 6, 1, 2));
        SquopPiles over = Games.over();
        checks.noState(over, "1: over", () -> over.lift(0, 0, 1, 2));
    }

    private void liftChangesNothing() {
        sameBehind("lift of no cell", game -> game.lift(13, 0, 1, 2));
        sameBehind("lift of no winks", game -> game.lift(0, 0, 0, 2));
        sameBehind("lift in no direction", game -> game.lift(0, 0, 1, 8));
        sameBehind("lift of no pile", game -> game.lift(5, 5, 1, 2));
        sameBehind("lift of too many", game -> game.lift(0, 0, 4, 2));
        sameBehind("lift of another colour's", game -> game.lift(12, 12, 1, 0));
        sameBehind("lift beyond the mat", game -> game.lift(0, 0, 1, 0));
    }

    private void setChangesNothing() {
        sameBehind("set to 0", game -> game.set(0));
        sameBehind("set to 7", game -> game.set(7));
    }

    private void putIndexFirst() {
        SquopPiles[] games = {new SquopPiles(), Games.over()};
        for (SquopPiles game : games) {
            for (int wink : new int[] {0, 3, 11}) {
                checks.noIndex(game, "x -1 of " + wink, () -> game.put(wink, -1, 0));
                checks.noIndex(game, "x 13 of " + wink, () -> game.put(wink, 13, 0));
                checks.noIndex(game, "y -1 of " + wink, () -> game.put(wink, 0, -1));
                checks.noIndex(game, "y 13 of " + wink, () -> game.put(wink, 0, 13));
            }
            checks.noIndex(game, "no wink", () -> game.put(16, 0, 0));
            checks.noIndex(game, "no wink and no cell", () -> game.put(-1, 13, 13));
        }
    }

    private void putStates() {
        SquopPiles game = new SquopPiles();
        for (int wink = 0; wink < 16; wink++) {
            int one = wink;
            if (wink % 4 != 3) {
                checks.noState(game, "covered, " + wink, () -> game.put(one, 5, 5));
            }
        }
        SquopPiles over = Games.over();
        for (int wink = 0; wink < 16; wink++) {
            int one = wink;
            checks.noState(over, "over, " + wink, () -> over.put(one, 5, 5));
        }
    }

    private void putChangesNothing() {
        sameBehind("put of no wink", game -> game.put(16, 0, 0));
        sameBehind("put to no cell", game -> game.put(3, 0, 13));
        sameBehind("put of a covered wink", game -> game.put(0, 5, 5));
        sameBehind("put of a covered wink into the cup", game -> game.put(0, 6, 6));
    }

    private void appendArgumentFirst() {
        SquopPiles game = new SquopPiles();
        for (int k = 0; k < 60; k++) {
            game.append('f');
        }
        checks.noArgument(game, "32", () -> game.append(32));
        checks.noArgument(game, "127", () -> game.append(127));
        checks.noState(game, "33", () -> game.append(33));
        checks.noState(game, "126", () -> game.append(126));
    }

    private void appendChangesNothing() {
        sameBehind("append of no code", game -> game.append(127));
        SquopPiles game = rich();
        SquopPiles twin = rich();
        Games.append(game, "f".repeat(54));
        Games.append(twin, "f".repeat(54));
        checks.noState(game, "the 61st", () -> game.append('f'));
        checks.due("the trace behind the 61st", traceOf(twin), traceOf(game));
        checks.due("the buffer stays full", 60, game.clearBuffer());
    }

    private void playChangesNothing() {
        sameBehind("play of no game", SquopPiles::play);
        SquopPiles game = rich();
        SquopPiles twin = rich();
        game.clearBuffer();
        twin.clearBuffer();
        checks.noArgument(game, "an empty buffer", game::play);
        checks.due("the trace behind an empty buffer", traceOf(twin), traceOf(game));
    }

    private void goBackChangesNothing() {
        SquopPiles game = Games.turnOf(3);
        Games.append(game, "laa12");
        checks.noState(game, "no snapshot", game::goBack);
        SquopPiles twin = Games.turnOf(3);
        Games.append(twin, "laa12");
        checks.due("the trace", traceOf(twin), traceOf(game));
    }

    private void undoChangesNothing() {
        SquopPiles game = Games.withText("laa12");
        game.keep();
        checks.noState(game, "no saved state", game::undo);
        SquopPiles twin = Games.withText("laa12");
        twin.keep();
        checks.due("the trace", traceOf(twin), traceOf(game));
        checks.due("the snapshot is there", 0, game.goBack());
        checks.due("the text is there", 5, game.clearBuffer());
    }

    private void winkOrder() {
        SquopPiles game = new SquopPiles();
        checks.noIndex(game, "-1 and -1", () -> game.wink(-1, -1));
        checks.noIndex(game, "16 and 7", () -> game.wink(16, 7));
        checks.noArgument(game, "0 and -1", () -> game.wink(0, -1));
        checks.noArgument(game, "15 and 7", () -> game.wink(15, 7));
    }

    private void pileOrder() {
        SquopPiles game = new SquopPiles();
        checks.noIndex(game, "x -1 and -1", () -> game.pile(-1, 0, -1));
        checks.noIndex(game, "x 13 and 4", () -> game.pile(13, 12, 4));
        checks.noIndex(game, "y -1 and 4", () -> game.pile(0, -1, 4));
        checks.noIndex(game, "y 13 and -1", () -> game.pile(12, 13, -1));
        checks.noIndex(game, "x 13 and y -1, a cell together", () -> game.pile(13, -1, 0));
        checks.noArgument(game, "a cell and -1", () -> game.pile(0, 0, -1));
        checks.noArgument(game, "the cup and 4", () -> game.pile(6, 6, 4));
    }

    private void colourOrder() {
        SquopPiles game = new SquopPiles();
        checks.noIndex(game, "-1 and -1", () -> game.colour(-1, -1));
        checks.noIndex(game, "4 and 7", () -> game.colour(4, 7));
        checks.noArgument(game, "0 and -1", () -> game.colour(0, -1));
        checks.noArgument(game, "3 and 7", () -> game.colour(3, 7));
    }

    private void whyOrder() {
        SquopPiles game = new SquopPiles();
        checks.noIndex(game, "x -1 and many 0", () -> game.why(-1, 0, 0, 0));
        checks.noIndex(game, "x 13 and direction 8", () -> game.why(13, 0, 1, 8));
        checks.noIndex(game, "y -1 and many 7", () -> game.why(0, -1, 7, 0));
        checks.noIndex(game, "y 13 and direction -1", () -> game.why(0, 13, 1, -1));
        checks.noIndex(game, "all", () -> game.why(13, 13, 7, 8));
    }

    private void whyInEveryState() {
        SquopPiles[] games = {new SquopPiles(), Games.over()};
        for (SquopPiles game : games) {
            for (int x : new int[] {0, 6, 12}) {
                checks.noArgument(game, "many 0 at " + x, () -> game.why(x, 0, 0, 0));
                checks.noArgument(game, "many 7 at " + x, () -> game.why(x, 0, 7, 0));
                checks.noArgument(game, "direction -1 at " + x, () -> game.why(x, 0, 1, -1));
                checks.noArgument(game, "direction 8 at " + x, () -> game.why(x, 0, 1, 8));
            }
        }
    }

    private void landsOrder() {
        SquopPiles game = new SquopPiles();
        checks.noIndex(game, "-1 and direction -1", () -> game.lands(-1, -1, 1));
        checks.noIndex(game, "16 and direction 8", () -> game.lands(16, 8, 1));
        checks.noIndex(game, "-1 and force 0", () -> game.lands(-1, 0, 0));
        checks.noIndex(game, "16 and force 10", () -> game.lands(16, 0, 10));
        checks.noIndex(game, "all", () -> game.lands(16, 8, 10));
    }

    private void landsOfPotted() {
        SquopPiles game = rich();
        checks.due("potted", -2, game.lands(7, 0, 1));
        checks.noArgument(game, "direction -1", () -> game.lands(7, -1, 1));
        checks.noArgument(game, "direction 8", () -> game.lands(7, 8, 1));
        checks.noArgument(game, "force 0", () -> game.lands(7, 0, 0));
        checks.noArgument(game, "force 10", () -> game.lands(7, 0, 10));
    }

    private void ifFlownOrder() {
        SquopPiles[] games = {new SquopPiles(), Games.over()};
        for (SquopPiles game : games) {
            checks.noIndex(game, "-1 and direction 8", () -> game.ifFlown(-1, 8, 1, 0));
            checks.noIndex(game, "16 and force 0", () -> game.ifFlown(16, 0, 0, 0));
            checks.noIndex(game, "16 and what 2", () -> game.ifFlown(16, 0, 1, 2));
            checks.noIndex(game, "-1 and what -1", () -> game.ifFlown(-1, 0, 1, -1));
            checks.noIndex(game, "all", () -> game.ifFlown(16, -1, 10, 2));
        }
    }

    private void ifFlownOfUnable() {
        SquopPiles game = rich();
        for (int wink : new int[] {0, 6, 7}) {
            checks.due("it can not fly, " + wink, -1000, game.ifFlown(wink, 0, 1, 0));
            checks.noArgument(game, "direction 8 of " + wink, () -> game.ifFlown(wink, 8, 1, 0));
            checks.noArgument(game, "force 10 of " + wink, () -> game.ifFlown(wink, 0, 10, 0));
            checks.noArgument(game, "what 2 of " + wink, () -> game.ifFlown(wink, 0, 1, 2));
        }
        SquopPiles over = Games.over();
        checks.noArgument(over, "what -1 when it is over", () -> over.ifFlown(3, 0, 1, -1));
    }

    private void looksChangeNothing() {
        SquopPiles game = rich();
        for (int number = 0; number < 16; number++) {
            game.wink(number, number % 7);
            game.pile(number % 13, 0, number % 4);
            game.colour(number % 4, number % 7);
            game.count(number % 14);
            game.why(number % 13, 0, 1 + number % 6, number % 8);
            game.lands(number, number % 8, 1 + number % 9);
            game.ifFlown(number, number % 8, 1 + number % 9, number % 2);
            game.flightsTo(number);
        }
        game.best();
        game.pottedShare();
        game.meanPile();
        game.firstError();
        checks.due("the trace", traceOf(rich()), traceOf(game));
    }
}
