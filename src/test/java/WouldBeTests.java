/** Promises 18 to 24: lands, ifFlown, best, flightsTo, pottedShare, meanPile, digest. */
final class WouldBeTests {
    private final Checks checks;

    WouldBeTests(Checks checks) {
        this.checks = checks;
    }

    void all() {
        checks.test("18 lands", this::lands);
        checks.test("18 lands: wrong arguments", this::landsRefused);
        checks.test("19 ifFlown: the points", this::ifFlownPoints);
        checks.test("19 ifFlown: winks of the other team covered", this::ifFlownCovered);
        checks.test("19 ifFlown: as the flight brings it", this::ifFlownIsTrue);
        checks.test("19 ifFlown: it can not fly", this::ifFlownNot);
        checks.test("19 ifFlown: wrong arguments", this::ifFlownRefused);
        checks.test("20 best: pots what it can", this::bestPots);
        checks.test("20 best: the more covered, then the least number", this::bestTies);
        checks.test("20 best: though all points are below 0", this::bestOfBad);
        checks.test("20 best: none can fly", this::bestNone);
        checks.test("21 flightsTo", this::flightsTo);
        checks.test("21 flightsTo: from every cell", this::flightsFromEveryCell);
        checks.test("21 flightsTo: wrong arguments", this::flightsRefused);
        checks.test("22 pottedShare", this::pottedShare);
        checks.test("23 meanPile", this::meanPile);
        checks.test("24 digest: as the promise lists it", this::digestOfList);
        checks.test("24 digest: tells changes", this::digestTells);
    }

    private void lands() {
        SquopPiles game = new SquopPiles();
        checks.due("large", 13 * 3, game.lands(0, 4, 3));
        checks.due("small", 13 * 4, game.lands(3, 4, 3));
        checks.due("small, force 9", 12 - 10, game.lands(7, 6, 9));
        checks.due("covered and not its turn", 168 - 13, game.lands(9, 0, 1));
        checks.due("into the cup", 169, game.lands(8, 7, 6));
        checks.due("over the cup", 70, game.lands(8, 7, 7));
        checks.due("off", -1, game.lands(8, 1, 1));
        game.put(11, 6, 6);
        checks.due("potted", -2, game.lands(11, 0, 1));
        SquopPiles over = Games.over();
        checks.due("when the game is over", 84 - 14, over.lands(0, 3, 5));
        long before = game.digest();
        game.lands(3, 3, 5);
        checks.due("nothing is changed", before, game.digest());
    }

    private void landsRefused() {
        SquopPiles game = new SquopPiles();
        game.put(3, 6, 6);
        checks.noIndex(game, "wink -1", () -> game.lands(-1, 0, 1));
        checks.noIndex(game, "wink 16", () -> game.lands(16, 0, 1));
        checks.noIndex(game, "wink 16 and force 0", () -> game.lands(16, 0, 0));
        checks.noArgument(game, "direction -1", () -> game.lands(0, -1, 1));
        checks.noArgument(game, "direction 8", () -> game.lands(0, 8, 1));
        checks.noArgument(game, "force 0 of a potted one", () -> game.lands(3, 0, 0));
        checks.noArgument(game, "force 10", () -> game.lands(0, 0, 10));
    }

    private void ifFlownPoints() {
        SquopPiles game = new SquopPiles();
        checks.due("off its base", 1, game.ifFlown(3, 2, 1, 0));
        checks.due("into the cup", 3, game.ifFlown(3, 3, 5, 0));
        checks.due("off the mat", 0, game.ifFlown(3, 1, 1, 0));
        game.put(7, 5, 5);
        checks.due("onto one of the other team", 1, game.ifFlown(3, 3, 4, 0));
        checks.due("elsewhere", 0, game.ifFlown(3, 3, 3, 0));
        game.put(11, 4, 4);
        checks.due("onto one of its own team", 0, game.ifFlown(3, 3, 3, 0));
        game.put(15, 6, 6);
        checks.due("with a potted one of the other team", 1 - 4, game.ifFlown(3, 3, 3, 0));
        game.fly(3, 2, 1);
        checks.due("of the team 1", 4 - 2, game.ifFlown(7, 4, 2, 0));
        game.fly(7, 0, 1);
        checks.due("of the team 0 again", 4 - 4, game.ifFlown(11, 3, 1, 0));
        checks.due("back onto its base", 1 - 4, game.ifFlown(11, 3, 7, 0));
    }

    private void ifFlownCovered() {
        SquopPiles game = new SquopPiles();
        checks.due("all below their tops", 6, game.ifFlown(3, 2, 1, 1));
        game.put(3, 2, 0);
        checks.due("onto the top of 1", 7, game.ifFlown(3, 2, 9, 1));
        checks.due("one of the same team does not count", 6, game.ifFlown(3, 6, 1, 1));
        game.put(15, 12, 0);
        checks.due("15 has left 14 and lies on 7", 6, game.ifFlown(3, 4, 1, 1));
        game.put(3, 5, 5);
        game.put(2, 12, 0);
        checks.due("2 lies on 15", 7, game.ifFlown(3, 2, 1, 1));
        checks.due("2 flies away from 15", 6, game.ifFlown(2, 4, 1, 1));
        game = new SquopPiles();
        game.put(3, 9, 0);
        game.put(11, 5, 0);
        game.put(10, 9, 9);
        game.put(2, 2, 0);
        game.fly(2, 4, 1);
        checks.due("of the team 0, told for 1", 2, game.ifFlown(7, 4, 1, 1));
        checks.due("one of them more", 3, game.ifFlown(7, 6, 2, 1));
        game.fly(7, 4, 1);
        game.fly(10, 0, 1);
        checks.due("told for 3", 2, game.ifFlown(15, 2, 1, 1));
    }

    /** What is told before is what count() tells behind the flight itself. */
    private void ifFlownIsTrue() {
        for (int flight = 0; flight < 72; flight++) {
            SquopPiles game = new SquopPiles();
            game.put(7, 3, 0);
            game.put(3, 3, 0);
            game.put(15, 3, 3);
            game.put(14, 0, 3);
            long before = game.digest();
            int lead = game.ifFlown(3, flight / 9, flight % 9 + 1, 0);
            int covered = game.ifFlown(3, flight / 9, flight % 9 + 1, 1);
            checks.due("nothing is changed", before, game.digest());
            game.fly(3, flight / 9, flight % 9 + 1);
            checks.due("the points of " + flight, game.count(10) - game.count(11), lead);
            checks.due("covered by " + flight, game.colour(1, 1) + game.colour(3, 1), covered);
        }
    }

    private void ifFlownNot() {
        SquopPiles game = new SquopPiles();
        checks.due("covered", -1000, game.ifFlown(0, 2, 1, 0));
        checks.due("covered, 1", -1000, game.ifFlown(0, 2, 1, 1));
        checks.due("not its turn", -1000, game.ifFlown(7, 4, 1, 0));
        game.put(3, 6, 6);
        checks.due("potted", -1000, game.ifFlown(3, 4, 1, 0));
        checks.due("over", -1000, Games.over().ifFlown(3, 4, 1, 0));
    }

    private void ifFlownRefused() {
        SquopPiles game = new SquopPiles();
        checks.noIndex(game, "wink -1", () -> game.ifFlown(-1, 0, 1, 0));
        checks.noIndex(game, "wink 16", () -> game.ifFlown(16, 0, 1, 0));
        checks.noIndex(game, "wink 16 and what 2", () -> game.ifFlown(16, 8, 0, 2));
        checks.noArgument(game, "direction -1", () -> game.ifFlown(3, -1, 1, 0));
        checks.noArgument(game, "direction 8", () -> game.ifFlown(3, 8, 1, 0));
        checks.noArgument(game, "force 0", () -> game.ifFlown(3, 0, 0, 0));
        checks.noArgument(game, "force 10", () -> game.ifFlown(3, 0, 10, 0));
        checks.noArgument(game, "what -1", () -> game.ifFlown(3, 0, 1, -1));
        checks.noArgument(game, "what 2", () -> game.ifFlown(3, 0, 1, 2));
        checks.noArgument(game, "what 2 of a covered one", () -> game.ifFlown(0, 0, 1, 2));
    }

    private void bestPots() {
        SquopPiles game = new SquopPiles();
        checks.due("the top one into the cup", 335, game.best());
        game.put(3, 9, 4);
        checks.due("2 into the cup", 235, game.best());
        long before = game.digest();
        checks.due("nothing is changed", before, game.digest());
        checks.due("again", 235, game.best());
    }

    private void bestTies() {
        SquopPiles game = new SquopPiles();
        Games.pot(game, 0, 3);
        game.put(0, 6, 0);
        checks.due("of two into the cup the least number", 6, game.best());
        game.put(0, 5, 4);
        checks.due("of all alike the least number", 1, game.best());
        game.put(0, 5, 0);
        checks.due("onto the base of 1, where it covers one", 27, game.best());
        game.put(7, 5, 3);
        checks.due("rather where that takes a point", 3, game.best());
        game.put(15, 8, 0);
        checks.due("of two the least number", 3, game.best());
        game.put(11, 5, 3);
        checks.due("not onto one of its own team", 23, game.best());
        game.put(14, 9, 4);
        checks.due("as ifFlown() tells", firstBest(game), game.best());
    }

    /** The best flight, told by ifFlown() alone. */
    private int firstBest(SquopPiles game) {
        int best = -1;
        int lead = 0;
        int covered = 0;
        for (int number = 0; number < 1600; number++) {
            int direction = number / 10 % 10;
            if (direction > 7 || number % 10 == 0 || game.wink(number / 100, 6) != 0) {
                continue;
            }
            int thisLead = game.ifFlown(number / 100, direction, number % 10, 0);
            int thisCovered = game.ifFlown(number / 100, direction, number % 10, 1);
            if (best < 0 || thisLead > lead || thisLead == lead && thisCovered > covered) {
                best = number;
                lead = thisLead;
                covered = thisCovered;
            }
        }
        return best;
    }

    private void bestOfBad() {
        SquopPiles game = new SquopPiles();
        Games.pot(game, 1, 3);
        Games.pot(game, 3, 3);
        checks.due("the points of the best one", 3 - 18, game.ifFlown(3, 3, 5, 0));
        checks.due("the best one", 335, game.best());
    }

    private void bestNone() {
        SquopPiles game = new SquopPiles();
        checks.due("over", -1, Games.over().best());
        game.put(7, 0, 0);
        checks.due("all are covered", -1, game.best());
        game.put(7, 6, 6);
        checks.due("free again", 335, game.best());
    }

    private void flightsTo() {
        SquopPiles game = new SquopPiles();
        for (int wink = 0; wink < 16; wink++) {
            checks.due("from the base, " + wink, 1, game.flightsTo(wink));
        }
        game.put(3, 6, 5);
        checks.due("small beside the cup", 2, game.flightsTo(3));
        game.put(2, 6, 6);
        checks.due("potted", 0, game.flightsTo(2));
        game.put(1, 6, 5);
        checks.due("large beside the cup", 1, game.flightsTo(1));
        game.put(7, 6, 5);
        checks.due("covered", 1, game.flightsTo(1));
        game.put(7, 5, 4);
        checks.due("off the lines", 2, game.flightsTo(7));
        checks.due("over", 1, Games.over().flightsTo(0));
    }

    /** Each wink is put on each cell, and its flights are searched by lands() alone. */
    private void flightsFromEveryCell() {
        SquopPiles game = new SquopPiles();
        game.put(3, 6, 6);
        game.put(2, 6, 6);
        game.put(7, 6, 6);
        game.put(6, 6, 6);
        for (int wink = 1; wink <= 7; wink += 6) {
            int[] fewest = fewestByLands(game, wink);
            for (int cell = 0; cell < 169; cell++) {
                if (cell != 84) {
                    game.put(wink, cell % 13, cell / 13);
                    checks.due(wink + " from " + cell, fewest[cell], game.flightsTo(wink));
                }
            }
        }
    }

    /** Rounds over all cells: one is as far as the nearest that a flight from it leads to, and 1 more. */
    private static int[] fewestByLands(SquopPiles game, int wink) {
        int[][] ends = new int[169][72];
        int[] fewest = new int[169];
        for (int cell = 0; cell < 169; cell++) {
            fewest[cell] = -1;
            game.put(wink, cell % 13, cell / 13);
            for (int flight = 0; flight < 72; flight++) {
                ends[cell][flight] = game.lands(wink, flight / 9, flight % 9 + 1);
            }
        }
        for (int round = 1; round < 169; round++) {
            for (int cell = 0; cell < 169; cell++) {
                for (int end : ends[cell]) {
                    boolean near = end == 169 ? round == 1 : end >= 0 && fewest[end] == round - 1;
                    if (near && fewest[cell] == -1) {
                        fewest[cell] = round;
                    }
                }
            }
        }
        return fewest;
    }

    private void flightsRefused() {
        SquopPiles game = new SquopPiles();
        checks.noIndex(game, "wink -1", () -> game.flightsTo(-1));
        checks.noIndex(game, "wink 16", () -> game.flightsTo(16));
        checks.noIndex(game, "the greatest", () -> game.flightsTo(Integer.MAX_VALUE));
    }

    private void pottedShare() {
        SquopPiles game = new SquopPiles();
        checks.isTrue("none", game.pottedShare() == 0.0);
        game.put(3, 6, 6);
        checks.isTrue("one", game.pottedShare() == 0.0625);
        game.put(7, 6, 6);
        game.put(11, 6, 6);
        checks.isTrue("three", game.pottedShare() == 0.1875);
        SquopPiles last = Games.lastFour();
        checks.isTrue("twelve", last.pottedShare() == 0.75);
        last.set(4);
        last.lift(6, 5, 4, 4);
        checks.isTrue("all", last.pottedShare() == 1.0);
    }

    private void meanPile() {
        SquopPiles game = new SquopPiles();
        checks.isTrue("four piles", game.meanPile() == 4.0f);
        game.put(3, 5, 5);
        game.put(7, 4, 4);
        checks.isTrue("six piles", game.meanPile() == 16.0f / 6.0f);
        game.put(3, 6, 6);
        checks.isTrue("five piles, one potted", game.meanPile() == 3.0f);
        SquopPiles last = Games.lastFour();
        checks.isTrue("one pile", last.meanPile() == 4.0f);
        last.set(4);
        last.lift(6, 5, 4, 4);
        checks.isTrue("no piles", last.meanPile() == 0.0f);
    }

    private void digestOfList() {
        SquopPiles game = new SquopPiles();
        checks.due("a new one", Digests.of(game, false, ""), game.digest());
        game.fly(3, 1, 1);
        game.lift(12, 0, 2, 4);
        game.put(11, 6, 6);
        game.keep();
        Games.append(game, "f3~!");
        checks.due("with a text and a snapshot", Digests.of(game, true, "f3~!"), game.digest());
        SquopPiles over = Games.over();
        checks.due("over", Digests.of(over, false, ""), over.digest());
        SquopPiles last = Games.lastFour();
        last.set(4);
        last.lift(6, 5, 4, 4);
        checks.due("all potted", Digests.of(last, false, ""), last.digest());
        SquopPiles shares = new SquopPiles();
        for (int k = 0; k < 12; k++) {
            int wink = 4 * (k % 4) + 3 - k / 4;
            shares.put(wink, k, 5);
            checks.due("piles, " + k, Digests.of(shares, false, ""), shares.digest());
            shares.put(wink, 6, 6);
            checks.due("potted, " + k, Digests.of(shares, false, ""), shares.digest());
        }
    }

    private void digestTells() {
        SquopPiles game = new SquopPiles();
        long first = game.digest();
        checks.due("it changes nothing", first, game.digest());
        game.append('f');
        long second = game.digest();
        game.clearBuffer();
        game.append('l');
        long third = game.digest();
        checks.isTrue("the text", first != second && second != third && first != third);
        game.clearBuffer();
        checks.due("as at first", first, game.digest());
        game.set(3);
        checks.isTrue("the saved state", first != game.digest());
        game.undo();
        checks.due("as at first again", first, game.digest());
    }
}
