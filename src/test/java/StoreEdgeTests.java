/** The edges of the buffer, of games as texts, of the saved states and of the snapshot. */
final class StoreEdgeTests {
    /** Eleven flights and a lift: just 60 characters. */
    private static final String FULL = "f321;f341;f301;f301;f221;f241;f201;f201;f121;f141;f101;lam10";

    private final Checks checks;

    StoreEdgeTests(Checks checks) {
        this.checks = checks;
    }

    void all() {
        checks.test("6 append: the 60th character, and the 61st", this::sixtieth);
        checks.test("6 append: from 1 again behind a full buffer that was cleared", this::appendAfterFull);
        checks.test("7 clearBuffer: an empty and a full one", this::clearEmptyAndFull);
        checks.test("8 firstError: an empty buffer has none", this::errorOfEmpty);
        checks.test("8 firstError: a full one without any", this::errorOfFull);
        checks.test("8 firstError: at the first and at the last of 60", this::errorAtEnds);
        checks.test("8 firstError: the first one of several", this::errorOfSeveral);
        checks.test("8 firstError: a text that goes on beyond 60 is no error", this::errorBeyondSixty);
        checks.test("8 firstError: each figure and letter at its ends", this::errorAtRangeEnds);
        checks.test("8 firstError: does not mind what can be done", this::errorMindsSyntaxAlone);
        checks.test("9 play: an empty buffer is no game", this::playEmpty);
        checks.test("9 play: a full buffer", this::playFull);
        checks.test("9 play: a full buffer that is not complete", this::playFullIncomplete);
        checks.test("9 play: one part alone", this::playOne);
        checks.test("9 play: none is done, but it is saved, and the buffer cleared", this::playNone);
        checks.test("9 play: a game that is over", this::playOver);
        checks.test("9 play: the last part can not be done", this::playAllButLast);
        checks.test("9 play: the part's wink is of the colour whose turn it is then", this::playTurnInside);
        checks.test("9 play: a covered and a potted wink stop it", this::playCoveredOrPotted);
        checks.test("9 play: a lift by the setting", this::playLiftBySetting);
        checks.test("10 keep: none potted, all potted", this::keepCounts);
        checks.test("10 keep: is not undoable, and is not undone", this::keepIsNotSaved);
        checks.test("11 goBack: to a game that was over, and out of one", this::goBackOver);
        checks.test("11 goBack: saves also if it changes nothing", this::goBackChangesNothing);
        checks.test("11 goBack: the snapshot stays for ever", this::goBackOften);
        checks.test("11 goBack: leaves the saved states", this::goBackLeavesSaved);
        checks.test("12 undo: five, six and seven saved states", this::undoSeven);
        checks.test("12 undo: six again behind an undo", this::undoThenSave);
        checks.test("12 undo: more than a round of the saved states", this::undoManyRounds);
        checks.test("12 undo: of calls that change nothing", this::undoNoChange);
        checks.test("12 undo: what is not undoable saves nothing", this::undoSavesNot);
        checks.test("12 undo: restores what was counted", this::undoCounts);
        checks.test("12 undo: of play, as one call", this::undoPlay);
        checks.test("12 undo: does not bring the buffer back", this::undoBuffer);
        checks.test("12 undo: back into a game that was over", this::undoIntoOver);
    }

    private void sixtieth() {
        SquopPiles game = new SquopPiles();
        for (int k = 1; k <= 59; k++) {
            game.append(126);
        }
        checks.due("the 60th", 60, game.append(33));
        checks.noState(game, "the 61st", () -> game.append(33));
        checks.due("the last one stays", Digests.of(game, false, "~".repeat(59) + "!"), game.digest());
    }

    private void appendAfterFull() {
        SquopPiles game = Games.withText(FULL);
        checks.due("cleared", 60, game.clearBuffer());
        checks.due("the first one again", 1, game.append('l'));
        checks.due("of the old ones nothing is left", Digests.of(game, false, "l"), game.digest());
    }

    private void clearEmptyAndFull() {
        SquopPiles game = new SquopPiles();
        checks.due("empty", 0, game.clearBuffer());
        Games.append(game, FULL);
        checks.due("full", 60, game.clearBuffer());
        checks.due("empty again", 0, game.clearBuffer());
    }

    private void errorOfEmpty() {
        SquopPiles game = new SquopPiles();
        checks.due("a new one", 0, game.firstError());
        Games.append(game, "x");
        game.clearBuffer();
        checks.due("a cleared one", 0, game.firstError());
    }

    private void errorOfFull() {
        checks.due("complete", 60, Games.withText(FULL).firstError());
        checks.due("twelve flights and the ; behind them", 60, Games.withText("f335;".repeat(12)).firstError());
        checks.due("ten lifts with theirs", 60, Games.withText("laa12;".repeat(10)).firstError());
    }

    private void errorAtEnds() {
        checks.due("the first one", 0, Games.withText("F" + FULL.substring(1)).firstError());
        checks.due("the last one", 59, Games.withText(FULL.substring(0, 59) + "8").firstError());
        checks.due("the last but one", 58, Games.withText(FULL.substring(0, 58) + "70").firstError());
        checks.due("none in 59", 59, Games.withText(FULL.substring(0, 59)).firstError());
    }

    private void errorOfSeveral() {
        checks.due("of two", 3, Games.withText("f33x5;y").firstError());
        checks.due("a right game behind an error", 0, Games.withText("!f335").firstError());
        checks.due("an error behind a right game", 4, Games.withText("f335!").firstError());
    }

    private void errorBeyondSixty() {
        String begun = "f335;".repeat(11) + "laa12";
        checks.due("a part that ends at 60", 60, Games.withText(begun).firstError());
        String open = "laa12;".repeat(9) + "f335;f";
        checks.due("a part that begins at 60", 60, Games.withText(open).firstError());
    }

    private void errorAtRangeEnds() {
        String[] right = {"f0", "f3", "f00", "f07", "f001", "f009", "la", "lm", "laa", "lmm", "laa1", "laa6", "laa10", "laa17"};
        String[] wrong = {"f/", "f4", "f0/", "f08", "f000", "f00:", "l`", "ln", "la`", "lmn", "laa0", "laa7", "laa1/", "laa18"};
        for (String text : right) {
            checks.due(text, text.length(), Games.withText(text).firstError());
        }
        for (String text : wrong) {
            checks.due(text, text.length() - 1, Games.withText(text).firstError());
        }
    }

    private void errorMindsSyntaxAlone() {
        SquopPiles over = Games.over();
        Games.append(over, "f335;lgg60");
        checks.due("when the game is over", 10, over.firstError());
        checks.due("a covered wink", 4, Games.withText("f001").firstError());
    }

    private void playEmpty() {
        SquopPiles game = new SquopPiles();
        checks.noArgument(game, "a new one", game::play);
        Games.append(game, "f321");
        game.clearBuffer();
        checks.noArgument(game, "a cleared one", game::play);
        checks.due("saved states", 0, game.count(13));
    }

    private void playFull() {
        SquopPiles game = Games.withText(FULL);
        checks.due("parts", 12, game.play());
        checks.due("flights", 11, game.count(7));
        checks.due("lifts", 1, game.count(8));
        checks.due("saved states", 1, game.count(13));
        checks.due("the buffer", 0, game.clearBuffer());
        checks.due("the turn", 0, game.count(0));
        checks.due("one was lifted", 13 * 11, game.wink(13, 2));
    }

    private void playFullIncomplete() {
        for (String text : new String[] {"f335;".repeat(12), "laa12;".repeat(10), FULL.substring(0, 59) + "8"}) {
            SquopPiles game = Games.withText(text);
            checks.noArgument(game, text, game::play);
            checks.due("the buffer stays", 60, game.clearBuffer());
        }
    }

    private void playOne() {
        SquopPiles flight = Games.withText("f321");
        checks.due("a flight", 1, flight.play());
        checks.due("its end", 2, flight.wink(3, 2));
        SquopPiles lift = Games.withText("laa32");
        checks.due("a lift", 1, lift.play());
        checks.due("left", 1, lift.pile(0, 0, 0));
    }

    private void playNone() {
        SquopPiles game = Games.withText("f021;f321");
        checks.due("the first one is covered", 0, game.play());
        checks.due("the buffer", 0, game.clearBuffer());
        checks.due("saved states", 1, game.count(13));
        checks.due("flights", 0, game.count(7));
        checks.due("the turn", 0, game.count(0));
        checks.due("left", 0, game.undo());
    }

    private void playOver() {
        SquopPiles flight = Games.over();
        Games.append(flight, "f321");
        checks.due("a flight", 0, flight.play());
        checks.due("the buffer", 0, flight.clearBuffer());
        checks.due("saved states", 5, flight.count(13));
        SquopPiles lift = Games.over();
        Games.append(lift, "laa12");
        checks.due("a lift", 0, lift.play());
        checks.due("lifts", 0, lift.count(8));
    }

    private void playAllButLast() {
        SquopPiles game = Games.withText("f321;f341;f301;f301;lca10");
        checks.due("a lift beyond the mat", 4, game.play());
        checks.due("the turn", 0, game.count(0));
        SquopPiles other = Games.withText("f321;f341;f341");
        checks.due("parts", 3, other.play());
        SquopPiles stopped = Games.withText("f321;f041;f301");
        checks.due("none behind the one that stops", 1, stopped.play());
        checks.due("flights", 1, stopped.count(7));
        checks.due("the turn", 1, stopped.count(0));
    }

    private void playTurnInside() {
        SquopPiles game = Games.withText("f335;f235;f121;f321");
        checks.due("parts", 4, game.play());
        checks.due("3 flew, and was potted", -1, game.wink(3, 2));
        checks.due("2 flew, and was potted", -1, game.wink(2, 2));
        checks.due("1 flew", 1, game.wink(1, 2));
        checks.due("7 flew", 1, game.wink(7, 5));
    }

    private void playCoveredOrPotted() {
        SquopPiles potted = Games.withText("f335;f335;f235");
        checks.due("a potted wink", 1, potted.play());
        checks.due("potted", 1, potted.count(2));
        SquopPiles covered = Games.withText("f335;f135;f235");
        checks.due("a covered wink", 1, covered.play());
        checks.due("potted", 1, covered.count(2));
    }

    private void playLiftBySetting() {
        SquopPiles game = Games.withText("laa42");
        checks.due("more than the setting", 0, game.play());
        game.set(4);
        Games.append(game, "laa42");
        checks.due("as many as it", 1, game.play());
        checks.due("lifts", 1, game.count(8));
    }

    private void keepCounts() {
        SquopPiles game = new SquopPiles();
        checks.due("none", 0, game.keep());
        game.put(3, 6, 6);
        checks.due("one", 1, game.keep());
        SquopPiles last = Games.lastFour();
        checks.due("twelve", 12, last.keep());
        last.set(4);
        last.lift(6, 5, 4, 4);
        checks.due("all", 16, last.keep());
        last.undo();
        checks.due("twelve again", 12, last.count(2));
        checks.due("back to all", 16, last.goBack());
    }

    private void keepIsNotSaved() {
        SquopPiles game = new SquopPiles();
        game.keep();
        checks.noState(game, "nothing to undo", game::undo);
        game.set(2);
        game.keep();
        checks.due("saved states", 1, game.count(13));
        game.undo();
        checks.due("the setting", 3, game.count(12));
        game.goBack();
        checks.due("the snapshot was not undone", 2, game.count(12));
    }

    private void goBackOver() {
        SquopPiles game = Games.over();
        game.keep();
        game.undo();
        checks.due("not over", 0, game.count(1));
        checks.due("potted then", 4, game.goBack());
        checks.due("over again", 1, game.count(1));
        checks.noState(game, "no flight", () -> game.fly(3, 2, 1));
        SquopPiles out = new SquopPiles();
        out.keep();
        Games.pot(out, 3, 4);
        checks.due("over", 1, out.count(1));
        checks.due("potted then", 0, out.goBack());
        checks.due("not over any more", 0, out.count(1));
        checks.due("it goes on", 2, out.fly(3, 2, 1));
    }

    private void goBackChangesNothing() {
        SquopPiles game = new SquopPiles();
        game.keep();
        checks.due("potted", 0, game.goBack());
        checks.due("saved states", 1, game.count(13));
        checks.due("left", 0, game.undo());
    }

    private void goBackOften() {
        SquopPiles game = new SquopPiles();
        game.put(3, 5, 5);
        game.keep();
        for (int k = 0; k < 10; k++) {
            game.fly(3, k % 8, 1);
            game.set(1 + k % 6);
            checks.due("potted", 0, game.goBack());
            checks.due("the cell of 3", 13 * 5 + 5, game.wink(3, 2));
            checks.due("flights", 0, game.count(7));
            checks.due("the setting", 3, game.count(12));
            checks.due("the turn", 0, game.count(0));
        }
        checks.due("saved states", 6, game.count(13));
    }

    private void goBackLeavesSaved() {
        SquopPiles game = new SquopPiles();
        game.keep();
        game.set(1);
        game.set(2);
        game.goBack();
        checks.due("saved states", 3, game.count(13));
        game.undo();
        checks.due("behind the first undo", 2, game.count(12));
        game.undo();
        checks.due("behind the second one", 1, game.count(12));
        game.undo();
        checks.due("behind the third one", 3, game.count(12));
    }

    private void undoSeven() {
        for (int calls = 5; calls <= 7; calls++) {
            SquopPiles game = new SquopPiles();
            for (int k = 1; k <= calls; k++) {
                game.put(3, k, 5);
            }
            int saved = Math.min(6, calls);
            checks.due("saved states of " + calls, saved, game.count(13));
            for (int left = saved - 1; left >= 0; left--) {
                checks.due("left of " + calls, left, game.undo());
            }
            checks.due("the oldest one of " + calls, calls == 7 ? 13 * 5 + 1 : 0, game.wink(3, 2));
            checks.noState(game, "one more of " + calls, game::undo);
        }
    }

    private void undoThenSave() {
        SquopPiles game = new SquopPiles();
        for (int k = 1; k <= 8; k++) {
            game.put(3, k, 5);
        }
        checks.due("left", 5, game.undo());
        checks.due("left", 4, game.undo());
        game.put(3, 1, 9);
        checks.due("saved states", 5, game.count(13));
        game.put(3, 2, 9);
        checks.due("saved states", 6, game.count(13));
        game.put(3, 3, 9);
        checks.due("saved states still", 6, game.count(13));
        int[] cells = {13 * 9 + 2, 13 * 9 + 1, 13 * 5 + 6, 13 * 5 + 5, 13 * 5 + 4, 13 * 5 + 3};
        for (int k = 0; k < 6; k++) {
            checks.due("left", 5 - k, game.undo());
            checks.due("the cell", cells[k], game.wink(3, 2));
        }
        checks.noState(game, "one more", game::undo);
    }

    private void undoManyRounds() {
        SquopPiles game = new SquopPiles();
        for (int k = 0; k < 100; k++) {
            game.put(3, k % 13, 5);
            checks.due("saved states", Math.min(6, k + 1), game.count(13));
        }
        for (int k = 1; k <= 6; k++) {
            game.undo();
            checks.due("the cell", 13 * 5 + (99 - k) % 13, game.wink(3, 2));
        }
        checks.noState(game, "one more", game::undo);
    }

    private void undoNoChange() {
        SquopPiles game = Games.withText("f001");
        game.keep();
        long before = game.digest();
        game.set(3);
        game.put(3, 0, 0);
        game.goBack();
        game.play();
        checks.due("saved states", 4, game.count(13));
        Games.append(game, "f001");
        for (int left = 3; left >= 0; left--) {
            checks.due("left", left, game.undo());
        }
        checks.due("the digest", before, game.digest());
    }

    private void undoSavesNot() {
        SquopPiles game = new SquopPiles();
        game.append('f');
        game.firstError();
        game.clearBuffer();
        game.keep();
        game.best();
        game.digest();
        checks.due("saved states", 0, game.count(13));
        game.set(5);
        game.undo();
        checks.due("nor does undo itself", 0, game.count(13));
        checks.noState(game, "nothing to undo", game::undo);
    }

    private void undoCounts() {
        SquopPiles game = new SquopPiles();
        game.fly(3, 1, 1);
        checks.due("flights", 1, game.count(7));
        checks.due("fouls", 1, game.count(9));
        game.undo();
        checks.due("no flights", 0, game.count(7));
        checks.due("none of 3", 0, game.wink(3, 5));
        checks.due("no fouls", 0, game.count(9));
        checks.due("none of 0", 0, game.colour(0, 4));
        checks.due("no lost turn", 0, game.colour(0, 5));
        checks.due("the turn", 0, game.count(0));
        game.lift(0, 0, 2, 2);
        game.undo();
        checks.due("no lifts", 0, game.count(8));
        checks.due("the pile", 4, game.pile(0, 0, 0));
        game.set(6);
        game.undo();
        checks.due("the setting", 3, game.count(12));
    }

    private void undoPlay() {
        SquopPiles game = new SquopPiles();
        long before = game.digest();
        Games.append(game, FULL);
        game.play();
        checks.due("left", 0, game.undo());
        checks.due("the digest", before, game.digest());
    }

    private void undoBuffer() {
        SquopPiles game = Games.withText("f321");
        game.play();
        game.undo();
        checks.due("it stays cleared", 0, game.clearBuffer());
        game.set(2);
        Games.append(game, FULL);
        game.undo();
        checks.due("it stays full", 60, game.clearBuffer());
    }

    private void undoIntoOver() {
        SquopPiles game = Games.over();
        game.set(2);
        game.undo();
        checks.due("still over", 1, game.count(1));
        checks.due("the setting", 3, game.count(12));
        game.undo();
        checks.due("not over", 0, game.count(1));
    }
}
