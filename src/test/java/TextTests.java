/** Promises 6 to 9: append, clearBuffer, firstError, play. */
final class TextTests {
    private final Checks checks;

    TextTests(Checks checks) {
        this.checks = checks;
    }

    void all() {
        checks.test("6 append: lengths up to 60", this::appendLengths);
        checks.test("6 append: wrong codes", this::appendRefused);
        checks.test("6 append: is not undoable", this::appendIsNotSaved);
        checks.test("7 clearBuffer", this::clear);
        checks.test("8 firstError: no error", this::noError);
        checks.test("8 firstError: errors by place", this::errors);
        checks.test("8 firstError: every character in every place", this::everyCharacter);
        checks.test("9 play: whole games", this::playWhole);
        checks.test("9 play: every figure of a part", this::playFigures);
        checks.test("9 play: up to the part that can not be done", this::playStops);
        checks.test("9 play: undoable as one call", this::playUndo);
        checks.test("9 play: turns inside", this::playTurns);
        checks.test("9 play: not a complete game", this::playRefused);
    }

    private void appendLengths() {
        SquopPiles game = new SquopPiles();
        for (int k = 1; k <= 60; k++) {
            checks.due("append " + k, k, game.append(k % 2 == 0 ? 33 : 126));
        }
        checks.noState(game, "the 61st", () -> game.append(102));
        checks.noArgument(game, "a wrong code into a full buffer", () -> game.append(32));
        checks.due("the length", 60, game.clearBuffer());
        checks.due("again", 1, game.append(102));
    }

    private void appendRefused() {
        SquopPiles game = Games.withText("f");
        checks.noArgument(game, "32", () -> game.append(32));
        checks.noArgument(game, "127", () -> game.append(127));
        checks.noArgument(game, "-1", () -> game.append(-1));
        checks.noArgument(game, "the least", () -> game.append(Integer.MIN_VALUE));
        checks.noArgument(game, "the greatest", () -> game.append(Integer.MAX_VALUE));
        checks.due("the length", 1, game.clearBuffer());
    }

    private void appendIsNotSaved() {
        SquopPiles game = Games.withText("f335");
        checks.due("saved states", 0, game.count(13));
        game.set(2);
        game.append(';');
        game.undo();
        checks.due("the buffer stays", 5, game.clearBuffer());
        checks.due("saved states", 0, game.count(13));
    }

    private void clear() {
        SquopPiles game = Games.withText("xyz");
        checks.due("the first time", 3, game.clearBuffer());
        checks.due("the second time", 0, game.clearBuffer());
        checks.due("saved states", 0, game.count(13));
        checks.due("no error", 0, game.firstError());
    }

    private void noError() {
        String[] texts = {"", "f", "f0", "f07", "f079", "f079;", "l", "la", "lam", "lam6", "lam67", "lam67;f001;laa10"};
        for (String text : texts) {
            checks.due(text, text.length(), Games.withText(text).firstError());
        }
    }

    private void errors() {
        String[] texts = {"x", ";", "f4", "f08", "f070", "f0711", "f071;;", "f071;x", "ln", "lan", "lam7", "lam0",
            "lam18", "lam10f", "f071,", "L", "F", "f0719", "f071;laa1;"};
        int[] places = {0, 0, 1, 2, 3, 4, 5, 5, 1, 2, 3, 3, 4, 5, 4, 0, 0, 4, 9};
        for (int k = 0; k < texts.length; k++) {
            checks.due(texts[k], places[k], Games.withText(texts[k]).firstError());
            checks.due(texts[k] + " with more", places[k], Games.withText(texts[k] + "f").firstError());
        }
    }

    /** Before each character stands what is allowed; behind it, a list of all that is allowed there. */
    private void everyCharacter() {
        String[] before = {"", "f", "f3", "f37", "f379", "f379;", "l", "la", "lam", "lam6", "lam67", "lam67;"};
        String[] allowed = {"fl", "0123", "01234567", "123456789", ";", "fl", "abcdefghijklm", "abcdefghijklm",
            "123456", "01234567", ";", "fl"};
        for (int k = 0; k < before.length; k++) {
            for (char code = 33; code <= 126; code++) {
                String text = before[k] + code;
                int want = allowed[k].indexOf(code) >= 0 ? text.length() : before[k].length();
                checks.due(text, want, Games.withText(text).firstError());
            }
        }
    }

    private void playWhole() {
        SquopPiles game = Games.withText("f336;f354;f374;f315");
        checks.due("parts", 4, game.play());
        checks.due("the length", 0, game.clearBuffer());
        checks.due("flights", 4, game.count(7));
        SquopPiles other = new SquopPiles();
        other.fly(3, 3, 6);
        other.fly(7, 5, 4);
        other.fly(11, 7, 4);
        other.fly(15, 1, 5);
        for (int wink = 0; wink < 16; wink++) {
            checks.due("the cell of " + wink, other.wink(wink, 2), game.wink(wink, 2));
            checks.due("the place of " + wink, other.wink(wink, 3), game.wink(wink, 3));
        }
        checks.due("the turn", 3, game.count(0));
        checks.due("saved states", 1, game.count(13));
    }

    private void playFigures() {
        SquopPiles game = Games.withText("laa32;lma14;lmm10");
        checks.due("parts", 3, game.play());
        checks.due("lifts", 3, game.count(8));
        checks.due("three lie on (1, 0)", 3, game.pile(1, 0, 0));
        checks.due("one lies on (12, 1)", 1, game.pile(12, 1, 0));
        checks.due("one lies on (12, 11)", 1, game.pile(12, 11, 0));
        Games.append(game, "f321");
        checks.due("a wink of the turn's colour", 1, game.play());
        checks.due("15 has flown", 13 * 12 + 2, game.wink(15, 2));
        Games.append(game, "lba22;lma10");
        checks.due("the second one goes beyond the mat", 1, game.play());
        checks.due("two lie on (2, 0)", 2, game.pile(2, 0, 0));
    }

    private void playStops() {
        SquopPiles game = Games.withText("f335;f229;laa10;f334");
        checks.due("parts", 2, game.play());
        checks.due("the length", 0, game.clearBuffer());
        checks.due("flights", 2, game.count(7));
        checks.due("lifts", 0, game.count(8));
        Games.append(game, "f001");
        checks.due("none is done", 0, game.play());
        checks.due("the length then", 0, game.clearBuffer());
        checks.due("saved, though none is done", 2, game.count(13));
        SquopPiles over = Games.over();
        Games.append(over, "f335");
        checks.due("when the game is over", 0, over.play());
        Games.append(over, "laa12");
        checks.due("a lift when the game is over", 0, over.play());
    }

    private void playUndo() {
        SquopPiles game = new SquopPiles();
        game.set(5);
        long before = game.digest();
        Games.append(game, "f336;f354;f374");
        checks.due("parts", 3, game.play());
        checks.due("saved states", 2, game.count(13));
        checks.due("left", 1, game.undo());
        checks.due("the digest", before, game.digest());
    }

    private void playTurns() {
        SquopPiles game = Games.withText("f335;f235;f121;f321;f301");
        checks.due("potted ones go on", 5, game.play());
        checks.due("the turn", 3, game.count(0));
        SquopPiles foul = Games.withText("f311;f341;f301;f301;f241");
        checks.due("a foul is a part that is done", 5, foul.play());
        checks.due("0 is passed over", 2, foul.count(0));
        checks.due("fouls", 1, foul.count(9));
        checks.due("6 has flown", 1, foul.wink(6, 5));
    }

    private void playRefused() {
        String[] texts = {"", "f", "f33", "f335;", "laa1", "x", "f335x", "f335;f", "f335;;f335", "f340", "laa12;laa1"};
        for (String text : texts) {
            SquopPiles game = Games.withText(text);
            checks.noArgument(game, "\"" + text + "\"", game::play);
            checks.due("the length stays", text.length(), game.clearBuffer());
            checks.due("saved states", 0, game.count(13));
        }
    }
}
