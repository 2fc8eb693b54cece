import java.math.BigInteger;

/** The edges of what can be told: looks, what a flight would do, the best flight, shares and the digest. */
final class LookEdgeTests {
    private final Checks checks;

    LookEdgeTests(Checks checks) {
        this.checks = checks;
    }

    void all() {
        checks.test("1 a new object: two of them share nothing", this::twoObjects);
        checks.test("13 wink: NONE of a potted one, 0 of the first cell and place", this::winkNone);
        checks.test("13 wink: flights, also those that were fouls or potted it", this::winkFlights);
        checks.test("14 pile: NONE without any, also at the cup and a left base", this::pileNone);
        checks.test("14 pile: one wink is top and bottom", this::pileOfOne);
        checks.test("15 colour: all covered, all potted", this::colourAll);
        checks.test("15 colour: below two of its winks, each once", this::colourBelowOnce);
        checks.test("15 colour: its own winks below do not count, nor what lies above", this::colourBelowOthers);
        checks.test("15 colour: a lost turn, till it is passed over", this::colourLost);
        checks.test("16 count: the turn when it is over", this::countTurn);
        checks.test("16 count: covered in two ways are the same", this::countCovered);
        checks.test("16 count: piles from 1 to 16, and none", this::countPiles);
        checks.test("16 count: the most points of a team", this::countPoints);
        checks.test("16 count: put counts as no flight and no lift", this::countPut);
        checks.test("18 lands: of every wink in every state", this::landsInEveryState);
        checks.test("18 lands: a wink onto its own cell", this::landsOnOwnCell);
        checks.test("19 ifFlown: a foul", this::ifFlownFoul);
        checks.test("19 ifFlown: the last one of its colour into the cup", this::ifFlownLast);
        checks.test("19 ifFlown: a wink that covers none and frees one", this::ifFlownFrees);
        checks.test("19 ifFlown: -1000 and numbers below 0", this::ifFlownBelowZero);
        checks.test("20 best: a least and a great number", this::bestNumbers);
        checks.test("20 best: one wink of several by its number", this::bestOfWinks);
        checks.test("20 best: of one pile alone", this::bestOfPile);
        checks.test("20 best: none when all of its winks are covered or potted", this::bestNone);
        checks.test("21 flightsTo: 0, 1, 2 and more", this::flightsToNumbers);
        checks.test("21 flightsTo: no flight of them is a foul", this::flightsToNoFoul);
        checks.test("21 flightsTo: covered, not its turn, over", this::flightsToAnyState);
        checks.test("22 pottedShare: from 0 to 16 winks", this::pottedShares);
        checks.test("23 meanPile: the highest, the lowest and none", this::meanPiles);
        checks.test("24 digest: a hash that overflows", this::digestOverflows);
        checks.test("24 digest: a full and an empty buffer", this::digestOfBuffers);
        checks.test("24 digest: with and without a snapshot", this::digestOfSnapshot);
        checks.test("24 digest: each state has its own", this::digestsDiffer);
        checks.test("512 calls", this::manyCalls);
    }

    private void twoObjects() {
        SquopPiles one = new SquopPiles();
        SquopPiles other = new SquopPiles();
        long before = other.digest();
        one.fly(3, 1, 1);
        one.keep();
        one.set(6);
        Games.append(one, "f3");
        checks.due("the other one", before, other.digest());
        checks.noState(other, "it has no snapshot", other::goBack);
        checks.noState(other, "it has no saved state", other::undo);
        checks.due("a third one", before, new SquopPiles().digest());
    }

    private void winkNone() {
        SquopPiles game = new SquopPiles();
        checks.due("the cell 0", 0, game.wink(0, 2));
        checks.due("the place 0", 0, game.wink(0, 3));
        game.put(3, 6, 6);
        checks.due("no cell", SquopPiles.NONE, game.wink(3, 2));
        checks.due("no place", SquopPiles.NONE, game.wink(3, 3));
        checks.due("its colour still", 0, game.wink(3, 0));
        checks.due("its size still", 0, game.wink(3, 1));
        game.put(3, 0, 0);
        checks.due("back at the cell 0", 0, game.wink(3, 2));
        checks.due("back at the place 3", 3, game.wink(3, 3));
    }

    private void winkFlights() {
        SquopPiles game = new SquopPiles();
        game.fly(3, 1, 1);
        checks.due("a foul", 1, game.wink(3, 5));
        game.fly(7, 5, 5);
        checks.due("one that potted it", 1, game.wink(7, 5));
        game.put(7, 12, 0);
        checks.due("still, out of the cup", 1, game.wink(7, 5));
        game.lift(12, 0, 1, 4);
        checks.due("a lift is none", 1, game.wink(7, 5));
        checks.due("all", 2, game.count(7));
    }

    private void pileNone() {
        SquopPiles game = new SquopPiles();
        game.put(3, 6, 6);
        game.set(4);
        game.lift(0, 0, 3, 2);
        int[] cells = {84, 0, 100};
        for (int cell : cells) {
            checks.due("winks at " + cell, 0, game.pile(cell % 13, cell / 13, 0));
            checks.due("the top at " + cell, SquopPiles.NONE, game.pile(cell % 13, cell / 13, 1));
            checks.due("the bottom at " + cell, SquopPiles.NONE, game.pile(cell % 13, cell / 13, 2));
            checks.due("the colours at " + cell, 0, game.pile(cell % 13, cell / 13, 3));
        }
    }

    private void pileOfOne() {
        for (int colour = 0; colour < 4; colour++) {
            SquopPiles game = new SquopPiles();
            int wink = 4 * colour + 3;
            game.put(wink, 7, 3);
            checks.due("winks", 1, game.pile(7, 3, 0));
            checks.due("the top", wink, game.pile(7, 3, 1));
            checks.due("the bottom", wink, game.pile(7, 3, 2));
            checks.due("the colours", 1 << colour, game.pile(7, 3, 3));
        }
    }

    private void colourAll() {
        SquopPiles game = new SquopPiles();
        game.put(7, 0, 0);
        checks.due("all covered", 4, game.colour(0, 1));
        checks.due("none free", 0, game.colour(0, 2));
        checks.due("none potted", 0, game.colour(0, 0));
        checks.due("no points", 0, game.colour(0, 3));
        SquopPiles over = Games.over();
        checks.due("all potted", 4, over.colour(2, 0));
        checks.due("none covered", 0, over.colour(2, 1));
        checks.due("none free then", 0, over.colour(2, 2));
        checks.due("its points", 12, over.colour(2, 3));
        checks.due("none below it", 0, over.colour(2, 6));
    }

    private void colourBelowOnce() {
        SquopPiles game = new SquopPiles();
        game.put(7, 5, 5);
        game.put(3, 5, 5);
        game.put(2, 5, 5);
        checks.due("below both of 0", 1, game.colour(0, 6));
        game.put(11, 8, 8);
        game.put(1, 8, 8);
        checks.due("one more in another pile", 2, game.colour(0, 6));
    }

    private void colourBelowOthers() {
        SquopPiles game = new SquopPiles();
        checks.due("its own on the base", 0, game.colour(2, 6));
        game.put(11, 5, 5);
        game.put(7, 5, 5);
        checks.due("above it", 0, game.colour(2, 6));
        checks.due("below the other one", 1, game.colour(1, 6));
        game.put(10, 5, 5);
        checks.due("7, but not 11", 1, game.colour(2, 6));
    }

    private void colourLost() {
        SquopPiles game = new SquopPiles();
        checks.due("at first", 0, game.colour(0, 5));
        game.fly(3, 1, 1);
        checks.due("lost", 1, game.colour(0, 5));
        checks.due("not by another one", 0, game.colour(1, 5));
        game.fly(7, 4, 1);
        game.fly(11, 0, 1);
        game.fly(15, 0, 1);
        checks.due("passed over", 0, game.colour(0, 5));
        checks.due("the foul stays", 1, game.colour(0, 4));
    }

    private void countTurn() {
        for (int colour = 0; colour < 4; colour++) {
            SquopPiles game = Games.turnOf(colour);
            checks.due("the turn", colour, game.count(0));
            Games.pot(game, 2, 4);
            checks.due("over", SquopPiles.NONE, game.count(0));
            game.undo();
            checks.due("as before", colour, game.count(0));
        }
    }

    private void countCovered() {
        for (int many = 0; many <= 16; many++) {
            SquopPiles game = Games.withPile(9, 2, many);
            checks.due("in two ways, " + many, game.count(3), game.count(4));
            int bases = many < 13 ? 4 : 16 - many;
            checks.due("covered, " + many, 16 - bases - (many == 0 ? 0 : 1), game.count(3));
        }
        checks.due("when all are potted", 0, allPotted().count(3));
        checks.due("and wink by wink", 0, allPotted().count(4));
    }

    private static SquopPiles allPotted() {
        SquopPiles game = Games.lastFour();
        game.set(4);
        game.lift(6, 5, 4, 4);
        return game;
    }

    private void countPiles() {
        SquopPiles game = new SquopPiles();
        for (int colour = 0; colour < 4; colour++) {
            for (int w = 3; w >= 1; w--) {
                game.put(4 * colour + w, 2 + 2 * colour, w);
            }
        }
        checks.due("each alone", 16, game.count(5));
        checks.due("the highest then", 1, game.count(6));
        checks.due("none is covered", 0, game.count(3));
        checks.due("one pile", 1, Games.withPile(9, 2, 16).count(5));
        checks.due("its height", 16, Games.withPile(9, 2, 16).count(6));
        checks.due("no piles", 0, allPotted().count(5));
        checks.due("no highest one", 0, allPotted().count(6));
    }

    private void countPoints() {
        SquopPiles game = allPotted();
        checks.due("the team 0", 24, game.count(10));
        checks.due("the team 1", 24, game.count(11));
        SquopPiles first = new SquopPiles();
        checks.due("the team 0 at first", 0, first.count(10));
        checks.due("the team 1 at first", 0, first.count(11));
        Games.pot(first, 0, 3);
        Games.pot(first, 2, 4);
        checks.due("seven potted", 21, first.count(10));
        checks.due("none of the other one", 0, first.count(11));
    }

    private void countPut() {
        SquopPiles game = new SquopPiles();
        game.put(3, 6, 6);
        game.put(2, 5, 5);
        checks.due("flights", 0, game.count(7));
        checks.due("lifts", 0, game.count(8));
        checks.due("fouls", 0, game.count(9));
        checks.due("the turn", 0, game.count(0));
    }

    private void landsInEveryState() {
        SquopPiles game = new SquopPiles();
        checks.due("covered", 2, game.lands(0, 2, 2));
        checks.due("not its turn", 12 + 13 * 3, game.lands(7, 4, 2));
        checks.due("a foul", SquopPiles.NONE, game.lands(0, 1, 1));
        game.put(3, 6, 6);
        for (int direction = 0; direction < 8; direction++) {
            checks.due("potted, " + direction, -2, game.lands(3, direction, 1 + direction));
        }
        SquopPiles over = Games.over();
        checks.due("over", 2, over.lands(0, 2, 2));
        checks.due("over, and potted", -2, over.lands(11, 2, 2));
        checks.due("over, into the cup", 169, over.lands(0, 3, 6));
    }

    private void landsOnOwnCell() {
        SquopPiles game = new SquopPiles();
        game.put(3, 5, 11);
        checks.due("there and back", 13 * 11 + 5, game.lands(3, 4, 1));
        game.put(2, 5, 11);
        checks.due("it flies so", 13 * 11 + 5, game.fly(2, 4, 1));
        checks.due("and lies on top again", 1, game.wink(2, 3));
        checks.due("what lies below stays covered", 1, game.wink(3, 4));
    }

    private void ifFlownFoul() {
        SquopPiles game = new SquopPiles();
        game.put(3, 5, 5);
        game.put(7, 0, 0);
        game.put(3, 11, 11);
        checks.due("back on its base it has no point", 0, game.ifFlown(3, 1, 9, 0));
        checks.due("it covers 7 there", 6, game.ifFlown(3, 1, 9, 1));
        checks.due("elsewhere it does not", 5, game.ifFlown(3, 7, 1, 1));
        checks.due("elsewhere it has one, and 7 too", 1 - 0, game.ifFlown(3, 7, 1, 0) + game.count(11));
    }

    private void ifFlownLast() {
        SquopPiles game = new SquopPiles();
        Games.pot(game, 0, 3);
        checks.due("the points then", 12, game.ifFlown(0, 3, 6, 0));
        checks.due("covered then", 6, game.ifFlown(0, 3, 6, 1));
        checks.due("it is not over yet", 0, game.count(1));
        checks.due("the flight itself", 169, game.fly(0, 3, 6));
        checks.due("then it can not fly", -1000, game.ifFlown(0, 3, 6, 0));
    }

    private void ifFlownFrees() {
        SquopPiles game = new SquopPiles();
        game.put(7, 7, 5);
        game.put(3, 7, 5);
        checks.due("7 is covered, 6 is not", 6, game.colour(1, 1) + game.colour(3, 1));
        checks.due("7 would be free", 5, game.ifFlown(3, 2, 1, 1));
        checks.due("and have a point", 1 - 1, game.ifFlown(3, 2, 1, 0));
        checks.due("onto the base of 1, where 6 lies", 6, game.ifFlown(3, 1, 4, 1));
    }

    private void ifFlownBelowZero() {
        SquopPiles game = new SquopPiles();
        Games.pot(game, 1, 3);
        Games.pot(game, 3, 3);
        checks.due("below 0", -18, game.ifFlown(3, 1, 1, 0));
        checks.due("-1000 is none of these", -1000, game.ifFlown(2, 1, 1, 0));
        checks.due("nor for the other number", -1000, game.ifFlown(2, 1, 1, 1));
    }

    private void bestNumbers() {
        SquopPiles least = new SquopPiles();
        Games.pot(least, 0, 3);
        least.put(0, 6, 7);
        checks.due("the wink 0, north, by 1", 1, least.best());
        SquopPiles great = Games.turnOf(3);
        Games.pot(great, 3, 2);
        great.put(13, 8, 8);
        great.put(12, 3, 11);
        checks.due("the wink 13, north-west, by 2", 1372, great.best());
        great.put(13, 6, 6);
        great.put(15, 9, 7);
        great.put(12, 6, 6);
        checks.due("the wink 15 alone", 15, great.best() / 100);
    }

    private void bestOfWinks() {
        SquopPiles game = new SquopPiles();
        game.put(3, 6, 8);
        game.put(2, 6, 9);
        game.put(1, 3, 11);
        game.put(0, 4, 11);
        checks.due("both into the cup: 2 has the least number", 202, game.best());
        game.put(2, 2, 11);
        checks.due("3 into the cup before the others elsewhere", 301, game.best());
        game.put(1, 6, 11);
        checks.due("1 into the cup", 105, game.best());
        game.put(0, 6, 5);
        checks.due("0 into the cup", 41, game.best());
    }

    private void bestOfPile() {
        SquopPiles game = Games.withPile(4, 6, 16);
        checks.due("the top one alone, east, by 2", 22, game.best());
    }

    private void bestNone() {
        SquopPiles game = new SquopPiles();
        game.put(3, 6, 6);
        game.put(7, 0, 0);
        checks.due("one potted, the others covered", SquopPiles.NONE, game.best());
        game.put(7, 1, 1);
        checks.due("one is free", 2, game.best() / 100);
        checks.due("over", SquopPiles.NONE, Games.over().best());
        checks.due("all potted", SquopPiles.NONE, allPotted().best());
    }

    private void flightsToNumbers() {
        SquopPiles game = new SquopPiles();
        game.put(3, 6, 6);
        checks.due("potted", 0, game.flightsTo(3));
        checks.due("a large one along the diagonal, by 6", 1, game.flightsTo(0));
        game.put(2, 6, 7);
        checks.due("a small one beside the cup", 2, game.flightsTo(2));
        game.put(2, 6, 4);
        checks.due("a small one two cells away", 1, game.flightsTo(2));
        game.put(1, 6, 7);
        checks.due("a large one beside the cup", 1, game.flightsTo(1));
        game.put(1, 7, 4);
        checks.due("off its lines", 2, game.flightsTo(1));
    }

    /** From (1, 0) the cup is on no line; a foul to the base, from where it is one flight, does not help. */
    private void flightsToNoFoul() {
        SquopPiles game = new SquopPiles();
        game.put(3, 1, 0);
        checks.due("off", SquopPiles.NONE, game.lands(3, 5, 9));
        for (int flight = 0; flight < 72; flight++) {
            checks.isTrue("not in one, " + flight, game.lands(3, flight / 9, flight % 9 + 1) != 169);
        }
        checks.due("in two", 2, game.flightsTo(3));
    }

    private void flightsToAnyState() {
        SquopPiles game = new SquopPiles();
        game.put(7, 0, 0);
        checks.due("covered", 1, game.flightsTo(3));
        checks.due("not its turn", 1, game.flightsTo(15));
        SquopPiles over = Games.over();
        checks.due("over", 1, over.flightsTo(3));
        checks.due("over, and potted", 0, over.flightsTo(11));
        for (int wink = 0; wink < 16; wink++) {
            checks.due("all potted, " + wink, 0, allPotted().flightsTo(wink));
        }
    }

    private void pottedShares() {
        SquopPiles game = new SquopPiles();
        checks.isTrue("0", game.pottedShare() == 0.0 && 1.0 / game.pottedShare() > 0.0);
        for (int many = 1; many <= 12; many++) {
            game.put(4 * (many % 4) + 3 - (many - 1) / 4, 6, 6);
            checks.isTrue(many + " potted", game.pottedShare() == many / 16.0);
        }
        checks.isTrue("16", allPotted().pottedShare() == 1.0);
    }

    private void meanPiles() {
        checks.isTrue("at first", new SquopPiles().meanPile() == 4.0f);
        checks.isTrue("16 in one", Games.withPile(3, 3, 16).meanPile() == 16.0f);
        SquopPiles game = new SquopPiles();
        for (int colour = 0; colour < 4; colour++) {
            for (int w = 3; w >= 1; w--) {
                game.put(4 * colour + w, 2 + 2 * colour, w);
            }
        }
        checks.isTrue("each alone", game.meanPile() == 1.0f);
        SquopPiles thirds = new SquopPiles();
        thirds.put(3, 6, 6);
        thirds.put(7, 5, 5);
        thirds.put(6, 4, 4);
        checks.isTrue("a float, not a double", thirds.meanPile() == 15.0f / 6.0f);
        thirds.put(5, 3, 3);
        checks.isTrue("of seven piles", thirds.meanPile() == 15.0f / 7.0f);
        checks.isTrue("none", allPotted().meanPile() == 0.0f);
    }

    /** The hash without a limit, cut to 64 bits behind all; some value of it has left the range long before. */
    private void digestOverflows() {
        SquopPiles[] games = {new SquopPiles(), Games.over(), allPotted(), Games.withPile(3, 3, 16)};
        for (SquopPiles game : games) {
            BigInteger hash = BigInteger.valueOf(3823);
            for (long value : valuesOf(game)) {
                hash = hash.multiply(BigInteger.valueOf(31)).add(BigInteger.valueOf(value));
            }
            checks.isTrue("it overflows", hash.bitLength() > 64);
            checks.due("the digest", hash.longValue(), game.digest());
        }
    }

    /** Of a game without a snapshot and with an empty buffer. */
    private static long[] valuesOf(SquopPiles game) {
        java.util.List<Long> values = new java.util.ArrayList<>();
        for (int what = 0; what < 14; what++) {
            values.add((long) game.count(what));
        }
        for (int wink = 0; wink < 16; wink++) {
            for (int what = 0; what < 7; what++) {
                values.add((long) game.wink(wink, what));
            }
            values.add((long) game.lands(wink, 3, 5));
            values.add((long) game.flightsTo(wink));
        }
        for (int number = 0; number < 28; number++) {
            values.add((long) game.colour(number / 7, number % 7));
        }
        for (int cell = 0; cell < 169; cell++) {
            for (int what = 0; what < 4 && game.pile(cell % 13, cell / 13, 1) >= 0; what++) {
                values.add((long) game.pile(cell % 13, cell / 13, what));
            }
        }
        values.add((long) game.best());
        values.add(Double.doubleToLongBits(game.pottedShare()));
        values.add((long) Float.floatToIntBits(game.meanPile()));
        values.add(0L);
        values.add(0L);
        return values.stream().mapToLong(Long::longValue).toArray();
    }

    private void digestOfBuffers() {
        SquopPiles game = new SquopPiles();
        long empty = game.digest();
        StringBuilder text = new StringBuilder();
        for (int k = 0; k < 60; k++) {
            char code = (char) (k % 2 == 0 ? 33 + k : 126 - k);
            game.append(code);
            text.append(code);
            checks.due("of " + (k + 1), Digests.of(game, false, text.toString()), game.digest());
        }
        game.clearBuffer();
        checks.due("empty again", empty, game.digest());
    }

    private void digestOfSnapshot() {
        SquopPiles game = new SquopPiles();
        checks.due("without", Digests.of(game, false, ""), game.digest());
        long without = game.digest();
        game.keep();
        checks.due("with", Digests.of(game, true, ""), game.digest());
        checks.due("one behind which the length 0 follows", without + 31, game.digest());
    }

    private void digestsDiffer() {
        java.util.Set<Long> digests = new java.util.HashSet<>();
        SquopPiles game = new SquopPiles();
        int many = 0;
        for (int cell = 1; cell < 169; cell++) {
            game.put(3, cell % 13, cell / 13);
            digests.add(game.digest());
            many++;
        }
        checks.due("of as many states", many, digests.size());
    }

    /** Nothing that is counted or kept comes to an end within the calls that an object is used for. */
    private void manyCalls() {
        SquopPiles game = new SquopPiles();
        for (int k = 0; k < 512; k++) {
            int turn = game.count(0);
            game.fly(4 * turn + 3, turn % 2 == 0 ? 1 : 3, 1);
        }
        checks.due("flights", 512, game.count(7));
        checks.due("fouls", 512, game.count(9));
        checks.due("saved states", 6, game.count(13));
        checks.due("fouls of 0", 128, game.colour(0, 4));
        checks.due("the turn", 0, game.count(0));
        checks.due("the digest", Digests.of(game, false, ""), game.digest());
    }
}
