/** The edges that the document's terms name: of the mat, the cup, turns, flights, lifts, points, settings. */
final class MatEdgeTests {
    private static final int[] EAST = {0, 1, 1, 1, 0, -1, -1, -1};
    private static final int[] SOUTH = {-1, -1, 0, 1, 1, 1, 0, -1};
    private static final int[] BASES = {0, 12, 168, 156};

    private final Checks checks;

    MatEdgeTests(Checks checks) {
        this.checks = checks;
    }

    void all() {
        checks.test("mat: the number of a cell is 13 y and x", this::cellNumbers);
        checks.test("mat: the cup is at (6, 6) alone", this::cupAlone);
        checks.test("mat: the bases are the corners, the wink 0 at the bottom, 3 on top", this::bases);
        checks.test("mat: w 0 and 1 are large, 2 and 3 small", this::sizes);
        checks.test("mat: a wink is covered by a wink of any colour, the top one is not", this::coveredByAny);
        checks.test("mat: a potted wink is out of the game", this::pottedIsOut);
        checks.test("mat: all winks in one pile", this::oneGreatPile);
        checks.test("turns: the colour 0 is at first, and behind 3", this::wrapAround);
        checks.test("turns: a lost turn is passed over in the wrap-around", this::lostInWrapAround);
        checks.test("turns: one that pots goes on, also from a pile of others", this::againFromPile);
        checks.test("turns: a foul behind a potted wink", this::foulBehindPotted);
        checks.test("turns: not over with three potted of each colour", this::threeOfEach);
        checks.test("turns: over by the fourth of each colour, by a flight", this::fourthByFlight);
        checks.test("turns: over by the fourth of each colour, by a lift", this::fourthByLift);
        checks.test("turns: over by the fourth of each colour, by put", this::fourthByPut);
        checks.test("turns: over in the midst of play", this::overInPlay);
        checks.test("flights: each from each cell, large and small", this::flightsFromEachCell);
        checks.test("flights: the last step to the edge does not bounce", this::lastStepToEdge);
        checks.test("flights: the last step beyond the edge bounces", this::lastStepBeyond);
        checks.test("flights: from each edge straight beyond it", this::fromEachEdge);
        checks.test("flights: at each corner into the bounce, and off at once", this::fromEachCorner);
        checks.test("flights: a second bounce is off, a step less is not", this::secondBounce);
        checks.test("flights: off onto an empty base", this::offOntoEmptyBase);
        checks.test("flights: off onto others on the base", this::offOntoOthers);
        checks.test("flights: off, each colour onto its own base", this::offOfEachColour);
        checks.test("flights: over the cup in each direction", this::overCup);
        checks.test("flights: into the cup in each direction", this::intoCup);
        checks.test("flights: reasons in their order", this::flightReasons);
        checks.test("lifts: from each cell in each direction", this::liftsFromEachCell);
        checks.test("lifts: into the cup from each side", this::liftsIntoCup);
        checks.test("lifts: as many as there are, and one more", this::liftsOfWholePile);
        checks.test("lifts: six of seven, in their order", this::liftSixOfSeven);
        checks.test("lifts: onto another pile", this::liftOntoPile);
        checks.test("lifts: each setting, and one more", this::liftsBySetting);
        checks.test("lifts: reasons in their order", this::liftReasons);
        checks.test("points: 0 at the least, 12 at the most", this::pointsRange);
        checks.test("points: each base counts for the others", this::pointsOnBases);
        checks.test("settings: 3 at first, from 1 to 6", this::settings);
    }

    private void cellNumbers() {
        SquopPiles game = new SquopPiles();
        for (int cell = 0; cell < 169; cell++) {
            if (cell != 84) {
                game.put(3, cell % 13, cell / 13);
                checks.due("the cell", cell, game.wink(3, 2));
                checks.due("the top at " + cell, 3, game.pile(cell % 13, cell / 13, 1));
            }
        }
        checks.due("the last one", 168, game.wink(3, 2));
    }

    private void cupAlone() {
        SquopPiles game = new SquopPiles();
        for (int cell = 0; cell < 169; cell++) {
            int height = game.put(3, cell % 13, cell / 13);
            checks.due("potted at " + cell, cell == 84 ? 1 : 0, game.count(2));
            checks.isTrue("the height at " + cell, height > 0 == (cell != 84));
        }
    }

    private void bases() {
        SquopPiles game = new SquopPiles();
        int[] x = {0, 12, 12, 0};
        int[] y = {0, 0, 12, 12};
        for (int colour = 0; colour < 4; colour++) {
            checks.due("winks of " + colour, 4, game.pile(x[colour], y[colour], 0));
            checks.due("the top of " + colour, 4 * colour + 3, game.pile(x[colour], y[colour], 1));
            checks.due("the bottom of " + colour, 4 * colour, game.pile(x[colour], y[colour], 2));
            checks.due("the colours of " + colour, 1 << colour, game.pile(x[colour], y[colour], 3));
        }
    }

    private void sizes() {
        SquopPiles game = new SquopPiles();
        for (int wink = 0; wink < 16; wink++) {
            boolean large = wink % 4 < 2;
            int east = wink / 4 == 0 || wink / 4 == 3 ? 1 : -1;
            checks.due("large, " + wink, large ? 1 : 0, game.wink(wink, 1));
            int want = BASES[wink / 4] + east * (large ? 3 : 4);
            checks.due("three cells or four, " + wink, want, game.lands(wink, east == 1 ? 2 : 6, 3));
        }
    }

    private void coveredByAny() {
        for (int colour = 0; colour < 4; colour++) {
            SquopPiles game = new SquopPiles();
            game.put(3, 5, 5);
            checks.due("alone", 0, game.wink(3, 4));
            int over = colour == 0 ? 2 : 4 * colour + 3;
            game.put(over, 5, 5);
            checks.due("below " + over, 1, game.wink(3, 4));
            checks.due("the top one", 0, game.wink(over, 4));
            game.put(over, 5, 6);
            checks.due("free again", 0, game.wink(3, 4));
        }
    }

    private void pottedIsOut() {
        SquopPiles game = new SquopPiles();
        game.put(3, 6, 6);
        game.put(7, 6, 6);
        checks.due("no pile", 0, game.pile(6, 6, 0));
        checks.due("no cell", -1, game.wink(3, 2));
        checks.due("no place", -1, game.wink(7, 3));
        checks.due("not covered", 0, game.wink(3, 4));
        checks.due("potted", 2, game.count(2));
        checks.due("piles", 4, game.count(5));
        checks.due("free ones of 0", 1, game.colour(0, 2));
    }

    private void oneGreatPile() {
        SquopPiles game = Games.withPile(5, 7, 16);
        checks.due("its height", 16, game.pile(5, 7, 0));
        checks.due("its top", 0, game.pile(5, 7, 1));
        checks.due("its bottom", 15, game.pile(5, 7, 2));
        checks.due("its colours", 15, game.pile(5, 7, 3));
        checks.due("the place of the top", 15, game.wink(0, 3));
        checks.due("the place of the bottom", 0, game.wink(15, 3));
        checks.due("covered, pile by pile", 15, game.count(3));
        checks.due("covered, wink by wink", 15, game.count(4));
        checks.due("piles", 1, game.count(5));
        checks.due("the highest", 16, game.count(6));
        checks.due("below 0", 12, game.colour(0, 6));
        checks.due("below 1, whose last one lies below 0", 12 - 1, game.colour(1, 6));
        checks.due("below 2", 12 - 2, game.colour(2, 6));
        checks.due("below 3", 12 - 3, game.colour(3, 6));
        checks.isTrue("the mean", game.meanPile() == 16.0f);
        checks.due("it flies off the pile", 13 * 7 + 6, game.fly(0, 2, 1));
        checks.due("the top then", 4, game.pile(5, 7, 1));
        checks.due("it is free", 0, game.wink(4, 4));
    }

    private void wrapAround() {
        SquopPiles game = new SquopPiles();
        checks.due("at first", 0, game.count(0));
        for (int colour = 1; colour < 4; colour++) {
            checks.due("then", colour, Games.turnOf(colour).count(0));
        }
        SquopPiles last = Games.turnOf(3);
        last.fly(15, 0, 1);
        checks.due("0 behind 3, by a flight", 0, last.count(0));
        last.undo();
        last.lift(0, 12, 1, 0);
        checks.due("0 behind 3, by a lift", 0, last.count(0));
        last.undo();
        checks.due("off by 3", -1, last.fly(15, 3, 1));
        checks.due("0 behind 3, by a foul", 0, last.count(0));
    }

    private void lostInWrapAround() {
        SquopPiles game = Games.turnOf(3);
        game.fly(15, 3, 1);
        checks.due("3 has lost one", 1, game.colour(3, 5));
        game.fly(3, 4, 1);
        game.fly(7, 4, 1);
        checks.due("before it", 2, game.count(0));
        game.fly(11, 0, 1);
        checks.due("3 is passed over", 0, game.count(0));
        checks.due("none is lost then", 0, game.colour(3, 5));
        game.fly(3, 1, 1);
        game.fly(7, 7, 1);
        checks.due("fouls", 1, game.count(9));
        game.fly(11, 0, 1);
        checks.due("once only", 3, game.count(0));
    }

    private void againFromPile() {
        SquopPiles game = new SquopPiles();
        game.put(15, 6, 8);
        game.put(3, 6, 8);
        checks.due("potted from a pile", 169, game.fly(3, 0, 1));
        checks.due("again", 0, game.count(0));
        checks.due("15 is free", 0, game.wink(15, 4));
        game.put(7, 0, 0);
        checks.due("again though all are covered", 0, game.count(0));
        checks.due("none can fly", -1, game.best());
    }

    private void foulBehindPotted() {
        SquopPiles game = new SquopPiles();
        game.fly(3, 3, 5);
        checks.due("off", -1, game.fly(2, 1, 1));
        checks.due("the next one", 1, game.count(0));
        checks.due("lost", 1, game.colour(0, 5));
        game.fly(7, 5, 5);
        checks.due("1 again", 1, game.count(0));
        checks.due("0 is not passed over by that", 1, game.colour(0, 5));
        game.fly(6, 4, 1);
        game.fly(11, 0, 1);
        game.fly(15, 0, 1);
        checks.due("0 is passed over", 1, game.count(0));
    }

    private void threeOfEach() {
        SquopPiles game = Games.lastFour();
        checks.due("potted", 12, game.count(2));
        checks.due("not over", 0, game.count(1));
        checks.due("the turn", 0, game.count(0));
        checks.due("0 can fly", 0, game.wink(0, 6));
        for (int colour = 0; colour < 4; colour++) {
            checks.due("potted of " + colour, 3, game.colour(colour, 0));
        }
    }

    private void fourthByFlight() {
        int[] directions = {3, 5, 7, 1};
        for (int colour = 0; colour < 4; colour++) {
            SquopPiles game = Games.turnOf(colour);
            Games.pot(game, colour, 3);
            checks.due("not over yet", 0, game.count(1));
            checks.due("the fourth of " + colour, 169, game.fly(4 * colour, directions[colour], 6));
            checks.due("over", 1, game.count(1));
            checks.due("no turn", -1, game.count(0));
            checks.due("why none can fly", 1, game.wink(0, 6));
            checks.due("why none can be lifted", 1, game.why(0, 0, 1, 2));
        }
    }

    private void fourthByLift() {
        for (int colour = 1; colour < 4; colour++) {
            SquopPiles game = new SquopPiles();
            Games.pot(game, colour, 3);
            game.put(4 * colour, 5, 6);
            game.put(3, 5, 6);
            checks.due("the upper one", 1, game.lift(5, 6, 1, 2));
            checks.due("not over", 0, game.count(1));
            game.undo();
            checks.due("both", 0, game.lift(5, 6, 2, 2));
            checks.due("over", 1, game.count(1));
            checks.due("potted of " + colour, 4, game.colour(colour, 0));
        }
    }

    private void fourthByPut() {
        for (int colour = 0; colour < 4; colour++) {
            SquopPiles game = new SquopPiles();
            Games.pot(game, colour, 3);
            checks.due("not over", 0, game.count(1));
            checks.due("the height at the cup", 0, game.put(4 * colour, 6, 6));
            checks.due("over", 1, game.count(1));
            checks.due("no turn", -1, game.count(0));
        }
    }

    private void overInPlay() {
        SquopPiles game = new SquopPiles();
        Games.append(game, "f335;f235;f136;f036;f301;laa12");
        checks.due("up to the fourth", 4, game.play());
        checks.due("over", 1, game.count(1));
        checks.due("flights", 4, game.count(7));
        game.undo();
        checks.due("not over", 0, game.count(1));
    }

    private void flightsFromEachCell() {
        SquopPiles game = new SquopPiles();
        game.put(3, 6, 6);
        game.put(2, 6, 6);
        game.put(7, 6, 6);
        for (int cell = 0; cell < 169; cell++) {
            if (cell != 84) {
                flightsFrom(game, cell, 1, 0);
                flightsFrom(game, cell, 7, 1);
            }
        }
    }

    private void flightsFrom(SquopPiles game, int cell, int wink, int more) {
        game.put(wink, cell % 13, cell / 13);
        for (int direction = 0; direction < 8; direction++) {
            for (int force = 1; force <= 9; force++) {
                int want = end(cell, direction, force + more);
                checks.due(wink + " from " + cell + " in " + direction + " by " + force, want,
                        game.lands(wink, direction, force));
            }
        }
        game.put(wink, 6, 6);
    }

    /** So many cells lie before the edge; what is left of the flight goes back from it. */
    private static int end(int cell, int direction, int steps) {
        int there = before(cell, direction);
        int forth = Math.min(there, steps);
        int turning = cell + forth * (13 * SOUTH[direction] + EAST[direction]);
        int back = steps - forth;
        int opposite = (direction + 4) % 8;
        if (back > before(turning, opposite)) {
            return -1;
        }
        int end = turning + back * (13 * SOUTH[opposite] + EAST[opposite]);
        return end == 84 ? 169 : end;
    }

    private static int before(int cell, int direction) {
        int x = cell % 13;
        int y = cell / 13;
        int alongX = EAST[direction] == 0 ? 99 : EAST[direction] == 1 ? 12 - x : x;
        int alongY = SOUTH[direction] == 0 ? 99 : SOUTH[direction] == 1 ? 12 - y : y;
        return Math.min(alongX, alongY);
    }

    private void lastStepToEdge() {
        SquopPiles game = new SquopPiles();
        game.put(3, 8, 3);
        checks.due("north", 8, game.lands(3, 0, 2));
        checks.due("north-east", 11, game.lands(3, 1, 2));
        checks.due("east", 13 * 3 + 12, game.lands(3, 2, 3));
        checks.due("south-east", 13 * 7 + 12, game.lands(3, 3, 3));
        checks.due("south", 13 * 12 + 8, game.lands(3, 4, 8));
        checks.due("south-west", 13 * 11, game.lands(3, 5, 7));
        checks.due("west", 13 * 3, game.lands(3, 6, 7));
        checks.due("north-west", 5, game.lands(3, 7, 2));
    }

    private void lastStepBeyond() {
        SquopPiles game = new SquopPiles();
        game.put(3, 8, 3);
        checks.due("north", 13 + 8, game.lands(3, 0, 3));
        checks.due("north-east", 13 + 10, game.lands(3, 1, 3));
        checks.due("east", 13 * 3 + 11, game.lands(3, 2, 4));
        checks.due("south-east", 13 * 6 + 11, game.lands(3, 3, 4));
        checks.due("south", 13 * 11 + 8, game.lands(3, 4, 9));
        checks.due("south-west", 13 * 10 + 1, game.lands(3, 5, 8));
        checks.due("west", 13 * 3 + 1, game.lands(3, 6, 8));
        checks.due("north-west", 13 + 6, game.lands(3, 7, 3));
    }

    private void fromEachEdge() {
        SquopPiles game = new SquopPiles();
        Games.pot(game, 0, 2);
        game.put(1, 5, 0);
        checks.due("north", 13 + 5, game.lands(1, 0, 1));
        game.put(1, 12, 5);
        checks.due("east", 13 * 5 + 11, game.lands(1, 2, 1));
        game.put(1, 5, 12);
        checks.due("south", 13 * 11 + 5, game.lands(1, 4, 1));
        game.put(1, 0, 5);
        checks.due("west", 13 * 5 + 1, game.lands(1, 6, 1));
        checks.due("west, by 9", 13 * 5 + 9, game.lands(1, 6, 9));
        game.put(3, 0, 5);
        checks.due("west, a small one by 9", 13 * 5 + 10, game.lands(3, 6, 9));
    }

    private void fromEachCorner() {
        int[] off = {1, 3, 1, 3};
        int[] bounce = {7, 1, 3, 5};
        for (int colour = 0; colour < 4; colour++) {
            SquopPiles game = new SquopPiles();
            int wink = 4 * colour;
            int inward = EAST[bounce[colour]] + 13 * SOUTH[bounce[colour]];
            checks.due("off at once", -1, game.lands(wink, off[colour], 1));
            checks.due("off at once, opposite", -1, game.lands(wink, off[colour] + 4, 1));
            checks.due("off at once, by 9", -1, game.lands(wink, off[colour], 9));
            checks.due("back along the diagonal", BASES[colour] - inward, game.lands(wink, bounce[colour], 1));
            checks.due("along it into the cup", 169, game.lands(wink, bounce[colour], 6));
            checks.due("the same without a bounce", 169, game.lands(wink, (bounce[colour] + 4) % 8, 6));
        }
    }

    private void secondBounce() {
        SquopPiles game = new SquopPiles();
        Games.pot(game, 0, 2);
        game.put(1, 1, 1);
        checks.due("to the edge", 2, game.lands(1, 1, 1));
        checks.due("back", 13 + 1, game.lands(1, 1, 2));
        checks.due("to the other edge", 13 * 2, game.lands(1, 1, 3));
        checks.due("beyond it", -1, game.lands(1, 1, 4));
        game.put(3, 1, 1);
        checks.due("small, to the other edge", 13 * 2, game.lands(3, 1, 2));
        checks.due("small, beyond it", -1, game.lands(3, 1, 3));
        checks.due("straight, it never comes to a second one", 13 + 9, game.lands(3, 6, 9));
    }

    private void offOntoEmptyBase() {
        SquopPiles game = new SquopPiles();
        Games.pot(game, 0, 3);
        game.put(0, 11, 11);
        checks.due("the base is empty", 0, game.pile(0, 0, 0));
        checks.due("off", -1, game.fly(0, 1, 4));
        checks.due("its cell", 0, game.wink(0, 2));
        checks.due("its place", 0, game.wink(0, 3));
        checks.due("the height", 1, game.pile(0, 0, 0));
        checks.due("it is not covered", 0, game.wink(0, 4));
        checks.due("nothing is left at its cell", 0, game.pile(11, 11, 0));
    }

    private void offOntoOthers() {
        SquopPiles game = new SquopPiles();
        game.put(3, 6, 6);
        game.put(7, 0, 0);
        game.put(6, 1, 0);
        game.put(3, 1, 0);
        checks.due("off", -1, game.fly(3, 5, 9));
        checks.due("on top of 7", 5 - 1, game.wink(3, 3));
        checks.due("7 is covered", 1, game.wink(7, 4));
        checks.due("6 is free", 0, game.wink(6, 4));
        checks.due("the top", 3, game.pile(0, 0, 1));
    }

    private void offOfEachColour() {
        int[] directions = {1, 3, 1, 3};
        for (int colour = 0; colour < 4; colour++) {
            SquopPiles game = Games.turnOf(colour);
            int wink = 4 * colour + 3;
            checks.due("off", -1, game.fly(wink, directions[colour], 9));
            checks.due("its base", BASES[colour], game.wink(wink, 2));
            checks.due("its fouls", 1, game.colour(colour, 4));
            checks.due("its lost turns", 1, game.colour(colour, 5));
            checks.due("all fouls", 1, game.count(9));
            checks.due("its flights", 1, game.wink(wink, 5));
            checks.due("all flights", colour + 1, game.count(7));
        }
    }

    private void overCup() {
        for (int direction = 0; direction < 8; direction++) {
            SquopPiles game = new SquopPiles();
            game.put(3, 6 - EAST[direction], 6 - SOUTH[direction]);
            int beyond = 84 + EAST[direction] + 13 * SOUTH[direction];
            checks.due("over it in " + direction, beyond, game.fly(3, direction, 1));
            checks.due("not potted", 0, game.count(2));
            checks.due("the next turn", 1, game.count(0));
        }
    }

    private void intoCup() {
        for (int direction = 0; direction < 8; direction++) {
            SquopPiles game = new SquopPiles();
            game.put(3, 6 - 2 * EAST[direction], 6 - 2 * SOUTH[direction]);
            checks.due("into it in " + direction, 169, game.fly(3, direction, 1));
            checks.due("potted", 1, game.count(2));
            checks.due("no cell", -1, game.wink(3, 2));
            checks.due("the same turn", 0, game.count(0));
        }
    }

    private void flightReasons() {
        SquopPiles over = Games.over();
        checks.due("1 before 2", 1, over.wink(7, 6));
        checks.due("1 before 3", 1, over.wink(11, 6));
        checks.due("1 before 4", 1, over.wink(0, 6));
        checks.due("1 alone", 1, over.wink(3, 6));
        SquopPiles game = new SquopPiles();
        game.put(7, 6, 6);
        checks.due("2 before 3", 2, game.wink(7, 6));
        checks.due("2 before 4", 2, game.wink(4, 6));
        checks.due("2 alone", 2, game.wink(6, 6));
        game.put(3, 6, 6);
        checks.due("3", 3, game.wink(3, 6));
        checks.due("4", 4, game.wink(1, 6));
        checks.due("none", 0, game.wink(2, 6));
    }

    private void liftsFromEachCell() {
        SquopPiles game = new SquopPiles();
        for (int cell = 0; cell < 169; cell++) {
            if (cell == 84) {
                continue;
            }
            int x = cell % 13;
            int y = cell / 13;
            game.put(3, x, y);
            for (int direction = 0; direction < 8; direction++) {
                boolean beside = before(cell, direction) > 0;
                checks.due(cell + " in " + direction, beside ? 0 : 5, game.why(x, y, 1, direction));
                if (beside) {
                    int left = game.pile(x, y, 0) - 1;
                    checks.due("left at " + cell, left, game.lift(x, y, 1, direction));
                    int to = cell + EAST[direction] + 13 * SOUTH[direction];
                    checks.due("come from " + cell, to == 84 ? -1 : to, game.wink(3, 2));
                    game.undo();
                }
            }
        }
    }

    private void liftsIntoCup() {
        for (int direction = 0; direction < 8; direction++) {
            SquopPiles game = Games.withPile(6 - EAST[direction], 6 - SOUTH[direction], 3);
            int x = 6 - EAST[direction];
            int y = 6 - SOUTH[direction];
            checks.due("left", 0, game.lift(x, y, 3, direction));
            checks.due("potted", 3, game.count(2));
            checks.due("not the turn again", 1, game.count(0));
            checks.due("points of 0, 1 and 2", 9, game.colour(0, 3) + game.colour(1, 3) + game.colour(2, 3));
        }
    }

    private void liftsOfWholePile() {
        for (int many = 1; many <= 5; many++) {
            SquopPiles game = Games.withPile(4, 4, many);
            game.set(6);
            checks.due("one more than " + many, 2, game.why(4, 4, many + 1, 2));
            checks.due("all of " + many, 0, game.why(4, 4, many, 2));
            checks.due("none is left", 0, game.lift(4, 4, many, 2));
            checks.due("all have come", many, game.pile(5, 4, 0));
        }
    }

    private void liftSixOfSeven() {
        SquopPiles game = Games.withPile(4, 4, 7);
        game.set(6);
        int[] order = new int[16];
        for (int wink = 0; wink < 16; wink++) {
            order[wink] = game.wink(wink, 2) == 13 * 4 + 4 ? game.wink(wink, 3) : -1;
        }
        checks.due("one is left", 1, game.lift(4, 4, 6, 2));
        for (int wink = 0; wink < 16; wink++) {
            if (order[wink] > 0) {
                checks.due("the cell of " + wink, 13 * 4 + 5, game.wink(wink, 2));
                checks.due("the place of " + wink, order[wink] - 1, game.wink(wink, 3));
            } else if (order[wink] == 0) {
                checks.due("the one left is free", 0, game.wink(wink, 4));
                checks.due("its cell", 13 * 4 + 4, game.wink(wink, 2));
            }
        }
    }

    private void liftOntoPile() {
        SquopPiles game = Games.withPile(4, 4, 3);
        game.put(15, 5, 4);
        game.put(14, 5, 4);
        checks.due("left", 1, game.lift(4, 4, 2, 2));
        checks.due("the height", 4, game.pile(5, 4, 0));
        checks.due("the bottom stays", 15, game.pile(5, 4, 2));
        checks.due("the top is the same", 3, game.pile(5, 4, 1));
        checks.due("the one below it", 2, game.wink(7, 3));
        checks.due("14 is covered", 1, game.wink(14, 4));
        checks.due("11 is freed", 0, game.wink(11, 4));
    }

    private void liftsBySetting() {
        for (int setting = 1; setting <= 6; setting++) {
            SquopPiles game = Games.withPile(4, 4, 7);
            game.set(setting);
            checks.due("as many as " + setting, 0, game.why(4, 4, setting, 2));
            if (setting < 6) {
                checks.due("one more than " + setting, 4, game.why(4, 4, setting + 1, 2));
            }
            checks.due("left", 7 - setting, game.lift(4, 4, setting, 2));
        }
    }

    private void liftReasons() {
        SquopPiles over = Games.over();
        checks.due("1 before 2", 1, over.why(5, 5, 1, 2));
        checks.due("1 before 3", 1, over.why(12, 0, 1, 4));
        checks.due("1 before 4", 1, over.why(0, 0, 4, 2));
        checks.due("1 before 5", 1, over.why(0, 0, 1, 0));
        SquopPiles game = new SquopPiles();
        checks.due("2 before 3", 2, game.why(12, 0, 5, 4));
        checks.due("2 before 4", 2, game.why(0, 0, 5, 2));
        checks.due("2 before 5", 2, game.why(0, 0, 5, 0));
        checks.due("3 before 4", 3, game.why(12, 0, 4, 4));
        checks.due("3 before 5", 3, game.why(12, 0, 1, 0));
        checks.due("4 before 5", 4, game.why(0, 0, 4, 0));
        checks.due("5", 5, game.why(0, 0, 3, 0));
        checks.due("none", 0, game.why(0, 0, 3, 2));
    }

    private void pointsRange() {
        SquopPiles game = new SquopPiles();
        int[] want = {0, 3, 6, 9, 12};
        for (int many = 0; many <= 4; many++) {
            checks.due(many + " potted", want[many], game.colour(3, 3));
            checks.due("the team 1", want[many], game.count(11));
            checks.due("the team 0", 0, game.count(10));
            if (many < 4) {
                game.put(15 - many, 6, 6);
            }
        }
        SquopPiles free = new SquopPiles();
        for (int w = 3; w >= 0; w--) {
            free.put(w, 1 + w, 1);
        }
        checks.due("all free, away from the base", 4, free.colour(0, 3));
    }

    private void pointsOnBases() {
        for (int colour = 0; colour < 4; colour++) {
            SquopPiles game = new SquopPiles();
            for (int base = 0; base < 4; base++) {
                game.put(4 * colour + 3, BASES[base] % 13, BASES[base] / 13);
                checks.due(colour + " on the base of " + base, base == colour ? 0 : 1, game.colour(colour, 3));
            }
        }
    }

    private void settings() {
        SquopPiles game = new SquopPiles();
        checks.due("at first", 3, game.count(12));
        int before = 3;
        for (int setting = 1; setting <= 6; setting++) {
            checks.due("the one before", before, game.set(setting));
            checks.due("the one now", setting, game.count(12));
            before = setting;
        }
    }
}
