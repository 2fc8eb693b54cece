/** Long runs of calls, each answer beside that of the plain model. */
final class ModelTests {
    private static final int RUNS = 100;
    private static final int CALLS = 500;

    /** A call on the program or on the model; its answer as a text, or the exception's name. */
    private interface Call {
        long run();
    }

    private final Checks checks;
    private long seed = 0;
    private SquopPiles game;
    private Model model;

    ModelTests(Checks checks) {
        this.checks = checks;
    }

    void all() {
        checks.test("model: runs of calls", this::runs);
    }

    private void runs() {
        for (int run = 0; run < RUNS; run++) {
            seed = run * 7919L + 17;
            game = new SquopPiles();
            model = new Model();
            for (int call = 0; call < CALLS; call++) {
                step("run " + run + ", call " + call + ": ", run % 4);
                if (call % 25 == 24) {
                    looks("run " + run + ", behind call " + call + ": ");
                }
            }
        }
    }

    private int pick(int bound) {
        seed = seed * 6364136223846793005L + 1442695040888963407L;
        return (int) ((seed >>> 33) % bound);
    }

    /** A number from least to most; now and then one just or far outside. */
    private int about(int least, int most) {
        switch (pick(60)) {
            case 0: return least - 1;
            case 1: return most + 1;
            case 2: return pick(2) == 0 ? Integer.MIN_VALUE : Integer.MAX_VALUE;
            default: return least + pick(most - least + 1);
        }
    }

    private void same(String what, Call program, Call due) {
        String got = answer(program);
        String want = answer(due);
        checks.isTrue(what + " answered " + got + ", due is " + want + ": this", got.equals(want));
    }

    private static String answer(Call call) {
        try {
            return String.valueOf(call.run());
        } catch (RuntimeException e) {
            return e.getClass().getSimpleName();
        }
    }

    private void step(String where, int kind) {
        int choice = pick(100);
        if (choice < 40) {
            stepFly(where);
        } else if (choice < 58) {
            stepLift(where);
        } else if (choice < (kind == 0 ? 60 : 72)) {
            stepPut(where, kind);
        } else if (choice < 76) {
            int winks = about(1, 6);
            same(where + "set(" + winks + ")", () -> game.set(winks), () -> model.set(winks));
        } else if (choice < 86) {
            stepText(where);
        } else if (choice < 89) {
            same(where + "keep()", game::keep, model::keep);
        } else if (choice < 92) {
            same(where + "goBack()", game::goBack, model::goBack);
        } else {
            same(where + "undo()", game::undo, model::undo);
        }
        if (model.count(1) == 1 && pick(3) > 0) {
            same(where + "undo()", game::undo, model::undo);
        }
    }

    private void stepFly(String where) {
        int best = model.best();
        boolean good = best >= 0 && pick(6) == 0;
        boolean own = model.count(0) >= 0 && pick(8) > 0;
        int wink = good ? best / 100 : own ? 4 * model.count(0) + pick(4) : about(0, 15);
        int direction = good ? best / 10 % 10 : about(0, 7);
        int force = good ? best % 10 : about(1, 9);
        String what = where + "fly(" + wink + ", " + direction + ", " + force + ")";
        same(what, () -> game.fly(wink, direction, force), () -> model.fly(wink, direction, force));
    }

    private void stepLift(String where) {
        int wink = pick(16);
        int cell = model.wink(wink, 2);
        boolean near = cell >= 0 && pick(5) > 0;
        int x = near ? cell % 13 : about(0, 12);
        int y = near ? cell / 13 : about(0, 12);
        int many = pick(2) == 0 ? 1 + pick(2) : about(1, 6);
        int direction = about(0, 7);
        String args = "(" + x + ", " + y + ", " + many + ", " + direction + ")";
        same(where + "why" + args, () -> game.why(x, y, many, direction), () -> model.why(x, y, many, direction));
        same(where + "lift" + args, () -> game.lift(x, y, many, direction), () -> model.lift(x, y, many, direction));
    }

    private void stepPut(String where, int kind) {
        int wink = about(0, 15);
        int other = model.wink(pick(16), 2);
        boolean onto = other >= 0 && pick(2) == 0;
        boolean near = pick(3) > 0;
        int x = onto ? other % 13 : near ? 5 + pick(3) : about(0, 12);
        int y = onto ? other / 13 : near ? 5 + pick(kind == 1 ? 2 : 1) : about(0, 12);
        same(where + "put(" + wink + ", " + x + ", " + y + ")", () -> game.put(wink, x, y), () -> model.put(wink, x, y));
    }

    private void stepText(String where) {
        if (pick(3) == 0) {
            same(where + "clearBuffer()", game::clearBuffer, model::clearBuffer);
        }
        for (int parts = 1 + pick(9); parts > 0; parts--) {
            appendPart(where, model.text().isEmpty() ? "" : ";");
        }
        if (pick(8) == 0) {
            int code = about(33, 126);
            same(where + "append(" + code + ")", () -> game.append(code), () -> model.append(code));
        }
        same(where + "firstError()", game::firstError, model::firstError);
        same(where + "play()", game::play, model::play);
        if (pick(2) == 0) {
            same(where + "clearBuffer()", game::clearBuffer, model::clearBuffer);
        }
    }

    private void appendPart(String where, String start) {
        String part = start + "f" + pick(4) + pick(8) + (1 + pick(9));
        int cell = model.wink(pick(16), 2);
        if (pick(3) == 0 && cell >= 0) {
            part = start + "l" + (char) ('a' + cell % 13) + (char) ('a' + cell / 13) + (1 + pick(3)) + pick(8);
        }
        for (char code : part.toCharArray()) {
            same(where + "append(" + code + ")", () -> game.append(code), () -> model.append(code));
        }
    }

    private void looks(String where) {
        for (int k = -1; k <= 16; k++) {
            int number = k;
            same(where + "count(" + k + ")", () -> game.count(number), () -> model.count(number));
            same(where + "flightsTo(" + k + ")", () -> game.flightsTo(number), () -> model.flightsTo(number));
            for (int w = -1; w <= 7; w++) {
                int what = w;
                int direction = pick(8);
                int force = 1 + pick(9);
                same(where + "wink(" + k + ", " + w + ")", () -> game.wink(number, what), () -> model.wink(number, what));
                same(where + "colour(" + k + ", " + w + ")",
                        () -> game.colour(number, what), () -> model.colour(number, what));
                same(where + "lands(" + k + ", ..)",
                        () -> game.lands(number, direction, force), () -> model.lands(number, direction, force));
                same(where + "ifFlown(" + k + ", .., " + w + ")",
                        () -> game.ifFlown(number, direction, force, what),
                        () -> model.ifFlown(number, direction, force, what));
            }
        }
        for (int cell = 0; cell < 169; cell++) {
            int x = cell % 13;
            int y = cell / 13;
            for (int w = 0; w < 4; w++) {
                int what = w;
                same(where + "pile(" + x + ", " + y + ", " + w + ")",
                        () -> game.pile(x, y, what), () -> model.pile(x, y, what));
            }
        }
        same(where + "best()", game::best, model::best);
        checks.isTrue(where + "pottedShare()", game.pottedShare() == model.pottedShare());
        checks.isTrue(where + "meanPile()", game.meanPile() == model.meanPile());
        checks.due(where + "digest()", Digests.of(game, model.hasSnapshot(), model.text()), game.digest());
    }
}
