import java.util.Arrays;

/** Tiddlywinks squops: winks of four colours in piles on a mat, of which the top one alone may move. */
public final class SquopPiles {
    /** There is nothing to return. */
    public static final int NONE = -1;

    private static final int SIDE = 13;
    private static final int CELLS = 169;
    private static final int CUP = 84;
    private static final int COLOURS = 4;
    private static final int WINKS_EACH = 4;
    private static final int WINKS = 16;
    private static final int DIRECTIONS = 8;
    private static final int MOST_FORCE = 9;
    private static final int MOST_LIFTED = 6;
    private static final int MOST_SAVED = 6;
    private static final int MOST_CODES = 60;
    private static final int ANSWER_POTTED = 169;
    private static final int ANSWER_WAS_POTTED = -2;
    private static final int ANSWER_NO_FLIGHT = -1000;

    private final State now = new State();
    private final State snapshot = new State();
    private final Past past = new Past();
    private final GameText text = new GameText();
    private final Mat trial = new Mat();
    private final Routes routes = new Routes();
    private boolean hasSnapshot;

    /** Creates winks on their bases, with an empty buffer and no snapshot. */
    public SquopPiles() {
        hasSnapshot = false;
    }

    // ---- the game

    /** Lets a wink fly. Undoable. */
    public int fly(int wink, int direction, int force)
            throws IndexOutOfBoundsException, IllegalArgumentException, IllegalStateException {
        requireWink(wink);
        requireFlight(direction, force);
        if (now.whyNotFlown(wink) != 0) {
            throw new IllegalStateException("the wink can not fly");
        }
        past.save(now);
        return now.carryOutFlight(wink, direction, force);
    }

    /** Lifts the upper part of a pile. Undoable. */
    public int lift(int x, int y, int many, int direction)
            throws IndexOutOfBoundsException, IllegalArgumentException, IllegalStateException {
        requireCell(x, y);
        requireLift(many, direction);
        if (now.whyNotLifted(x, y, many, direction) != 0) {
            throw new IllegalStateException("the pile can not be lifted");
        }
        past.save(now);
        now.carryOutLift(x, y, many, direction);
        return now.mat.heightAt(cellAt(x, y));
    }

    /** Changes the setting. Undoable. */
    public int set(int winks) throws IllegalArgumentException {
        if (winks < 1 || winks > MOST_LIFTED) {
            throw new IllegalArgumentException("the setting is 1 to 6");
        }
        past.save(now);
        int before = now.setting;
        now.setting = winks;
        return before;
    }

    /** Puts a wink on top of the pile at a cell, whoever's turn it is. Undoable. */
    public int put(int wink, int x, int y) throws IndexOutOfBoundsException, IllegalStateException {
        requireWink(wink);
        requireCell(x, y);
        if (now.mat.isOver() || now.mat.isCovered(wink)) {
            throw new IllegalStateException("the wink can not be put");
        }
        past.save(now);
        int cell = cellAt(x, y);
        now.mat.move(wink, cell);
        return now.mat.heightAt(cell);
    }

    // ---- texts, the snapshot

    /** Appends a character to the buffer. */
    public int append(int code) throws IllegalArgumentException, IllegalStateException {
        if (code < 33 || code > 126) {
            throw new IllegalArgumentException("a character code is 33 to 126");
        }
        if (text.length >= MOST_CODES) {
            throw new IllegalStateException("the buffer is full");
        }
        text.add(code);
        return text.length;
    }

    /** Clears the buffer. */
    public int clearBuffer() {
        int before = text.length;
        text.length = 0;
        return before;
    }

    /** Finds the first syntax error of the buffer. */
    public int firstError() {
        return text.errorIndex();
    }

    /** Does the game in the buffer, up to the first part that can not be done. Undoable as one call. */
    public int play() throws IllegalArgumentException {
        if (!text.isComplete()) {
            throw new IllegalArgumentException("the buffer is not a complete game");
        }
        past.save(now);
        int done = doParts();
        text.length = 0;
        return done;
    }

    /** Takes a snapshot of the state, in place of the one that was. */
    public int keep() {
        snapshot.copyFrom(now);
        hasSnapshot = true;
        return now.mat.potted();
    }

    /** Goes back to the snapshot, which stays. Undoable. */
    public int goBack() throws IllegalStateException {
        if (!hasSnapshot) {
            throw new IllegalStateException("there is no snapshot");
        }
        past.save(now);
        now.copyFrom(snapshot);
        return now.mat.potted();
    }

    /** Restores the latest saved state, and drops it. */
    public int undo() throws IllegalStateException {
        if (past.many == 0) {
            throw new IllegalStateException("there is no saved state");
        }
        past.restore(now);
        return past.many;
    }

    // ---- looks; nothing is changed

    /** Tells something of a wink. */
    public int wink(int wink, int what) throws IndexOutOfBoundsException, IllegalArgumentException {
        requireWink(wink);
        switch (what) {
            case 0: return colourOf(wink);
            case 1: return isLarge(wink) ? 1 : 0;
            case 2: return now.mat.cell[wink];
            case 3: return now.mat.placeOf(wink);
            case 4: return now.mat.isCovered(wink) ? 1 : 0;
            case 5: return now.flights[wink];
            case 6: return now.whyNotFlown(wink);
            default: throw new IllegalArgumentException("what is 0 to 6");
        }
    }

    /** Tells something of a pile. */
    public int pile(int x, int y, int what) throws IndexOutOfBoundsException, IllegalArgumentException {
        requireCell(x, y);
        int cell = cellAt(x, y);
        switch (what) {
            case 0: return now.mat.heightAt(cell);
            case 1: return now.mat.topAt(cell);
            case 2: return now.mat.bottomAt(cell);
            case 3: return now.mat.coloursAt(cell);
            default: throw new IllegalArgumentException("what is 0 to 3");
        }
    }

    /** Tells something of a colour. */
    public int colour(int colour, int what) throws IndexOutOfBoundsException, IllegalArgumentException {
        if (!isColour(colour)) {
            throw new IndexOutOfBoundsException("a colour is 0 to 3");
        }
        switch (what) {
            case 0: return now.mat.pottedOf(colour);
            case 1: return now.mat.coveredOf(colour);
            case 2: return WINKS_EACH - now.mat.pottedOf(colour) - now.mat.coveredOf(colour);
            case 3: return now.mat.pointsOf(colour);
            case 4: return now.fouls[colour];
            case 5: return now.lost[colour];
            case 6: return now.mat.othersBelow(colour);
            default: throw new IllegalArgumentException("what is 0 to 6");
        }
    }

    /** Returns a number. */
    public int count(int what) throws IllegalArgumentException {
        switch (what) {
            case 0: return now.mat.isOver() ? NONE : now.turn;
            case 1: return now.mat.isOver() ? 1 : 0;
            case 2: return now.mat.potted();
            case 3: return now.mat.coveredByPiles();
            case 4: return now.mat.coveredByWinks();
            case 5: return now.mat.piles();
            case 6: return now.mat.highest();
            case 7: return now.allFlights();
            case 8: return now.lifts;
            case 9: return now.allFouls();
            case 10: return now.mat.pointsOfTeam(0);
            case 11: return now.mat.pointsOfTeam(1);
            case 12: return now.setting;
            case 13: return past.many;
            default: throw new IllegalArgumentException("what is 0 to 13");
        }
    }

    /** Tells why a pile can not be lifted; 0 if it can be. */
    public int why(int x, int y, int many, int direction)
            throws IndexOutOfBoundsException, IllegalArgumentException {
        requireCell(x, y);
        requireLift(many, direction);
        return now.whyNotLifted(x, y, many, direction);
    }

    // ---- what would be; nothing is changed

    /** Tells where a wink would come down, from its cell, whether it can fly or not. */
    public int lands(int wink, int direction, int force)
            throws IndexOutOfBoundsException, IllegalArgumentException {
        requireWink(wink);
        requireFlight(direction, force);
        if (now.mat.isPotted(wink)) {
            return ANSWER_WAS_POTTED;
        }
        return flightAnswer(landing(now.mat.cell[wink], direction, stepsOf(wink, force)));
    }

    /** Tells what a flight would bring. */
    public int ifFlown(int wink, int direction, int force, int what)
            throws IndexOutOfBoundsException, IllegalArgumentException {
        requireWink(wink);
        requireFlight(direction, force);
        if (what < 0 || what > 1) {
            throw new IllegalArgumentException("what is 0 or 1");
        }
        if (now.whyNotFlown(wink) != 0) {
            return ANSWER_NO_FLIGHT;
        }
        tryFlight(wink, direction, force);
        return what == 0 ? trial.leadOf(teamOf(wink)) : trial.coveredOfTeam(1 - teamOf(wink));
    }

    /** Finds the best flight of the colour whose turn it is. */
    public int best() {
        int best = NONE;
        int bestLead = 0;
        int bestCovered = 0;
        for (int wink = 0; wink < WINKS; wink++) {
            if (now.whyNotFlown(wink) != 0) {
                continue;
            }
            int team = teamOf(wink);
            for (int flight = 0; flight < DIRECTIONS * MOST_FORCE; flight++) {
                int direction = flight / MOST_FORCE;
                int force = flight % MOST_FORCE + 1;
                tryFlight(wink, direction, force);
                int lead = trial.leadOf(team);
                int covered = trial.coveredOfTeam(1 - team);
                // The numbers come in rising order, so the first of equal flights has the least.
                if (best == NONE || lead > bestLead || (lead == bestLead && covered > bestCovered)) {
                    best = 100 * wink + 10 * direction + force;
                    bestLead = lead;
                    bestCovered = covered;
                }
            }
        }
        return best;
    }

    /** Tells in how many flights a wink can be in the cup, if it alone flies. */
    public int flightsTo(int wink) throws IndexOutOfBoundsException {
        requireWink(wink);
        return now.mat.isPotted(wink) ? 0 : routes.fewest(now.mat.cell[wink], isLarge(wink));
    }

    /** Returns how much is potted. */
    public double pottedShare() {
        return (double) now.mat.potted() / 16.0;
    }

    /** Returns how high piles are. */
    public float meanPile() {
        int piles = now.mat.piles();
        return piles == 0 ? 0.0f : (float) (WINKS - now.mat.potted()) / (float) piles;
    }

    /** Computes a hash of the whole state. */
    public long digest() {
        long hash = 3823;
        for (int what = 0; what <= 13; what++) {
            hash = mixed(hash, count(what));
        }
        hash = withWinks(hash);
        hash = withColours(hash);
        hash = withPiles(hash);
        hash = mixed(hash, best());
        hash = mixed(hash, bitsOf(pottedShare(), 52, 1023));
        hash = mixed(hash, bitsOf(meanPile(), 23, 127));
        hash = mixed(hash, hasSnapshot ? 1 : 0);
        return withText(hash);
    }

    // ---- parts of the digest

    private static long mixed(long hash, long value) {
        return 31 * hash + value;
    }

    private long withWinks(long start) {
        long hash = start;
        for (int wink = 0; wink < WINKS; wink++) {
            for (int what = 0; what <= 6; what++) {
                hash = mixed(hash, wink(wink, what));
            }
            hash = mixed(hash, lands(wink, 3, 5));
            hash = mixed(hash, flightsTo(wink));
        }
        return hash;
    }

    private long withColours(long start) {
        long hash = start;
        for (int colour = 0; colour < COLOURS; colour++) {
            for (int what = 0; what <= 6; what++) {
                hash = mixed(hash, colour(colour, what));
            }
        }
        return hash;
    }

    private long withPiles(long start) {
        long hash = start;
        for (int cell = 0; cell < CELLS; cell++) {
            if (now.mat.topAt(cell) == NONE) {
                continue;
            }
            for (int what = 0; what <= 3; what++) {
                hash = mixed(hash, pile(cell % SIDE, cell / SIDE, what));
            }
        }
        return hash;
    }

    private long withText(long start) {
        long hash = mixed(start, text.length);
        for (int k = 0; k < text.length; k++) {
            hash = mixed(hash, text.codeAt(k));
        }
        return hash;
    }

    /**
     * The bits of a number that is 0 or above, as the standard lays them out. They are worked out here
     * because the library that the program keeps to can not tell them.
     */
    private static long bitsOf(double value, int fractionBits, int bias) {
        if (value <= 0.0) {
            return 0;
        }
        double rest = value;
        long exponent = bias;
        for (int k = 0; k < bias && rest >= 2.0; k++) {
            rest = rest / 2.0;
            exponent++;
        }
        for (int k = 0; k < bias && rest < 1.0; k++) {
            rest = rest * 2.0;
            exponent--;
        }
        double fraction = (rest - 1.0) * (double) (1L << fractionBits);
        return (exponent << fractionBits) + (long) fraction;
    }

    // ---- trials and texts

    private void tryFlight(int wink, int direction, int force) {
        trial.copyFrom(now.mat);
        int end = landing(trial.cell[wink], direction, stepsOf(wink, force));
        trial.move(wink, restingCell(wink, end));
    }

    private int doParts() {
        int done = 0;
        int at = 0;
        while (at < text.length) {
            boolean isFlight = text.codeAt(at) == 'f';
            if (!(isFlight ? doFlightPart(at) : doLiftPart(at))) {
                return done;
            }
            done++;
            at += isFlight ? 5 : 6;
        }
        return done;
    }

    private boolean doFlightPart(int at) {
        int wink = WINKS_EACH * now.turn + text.codeAt(at + 1) - '0';
        if (!isWink(wink) || now.whyNotFlown(wink) != 0) {
            return false;
        }
        now.carryOutFlight(wink, text.codeAt(at + 2) - '0', text.codeAt(at + 3) - '0');
        return true;
    }

    private boolean doLiftPart(int at) {
        int x = text.codeAt(at + 1) - 'a';
        int y = text.codeAt(at + 2) - 'a';
        int many = text.codeAt(at + 3) - '0';
        int direction = text.codeAt(at + 4) - '0';
        if (now.whyNotLifted(x, y, many, direction) != 0) {
            return false;
        }
        now.carryOutLift(x, y, many, direction);
        return true;
    }

    // ---- what arguments are allowed

    private static void requireWink(int wink) {
        if (!isWink(wink)) {
            throw new IndexOutOfBoundsException("a wink is 0 to 15");
        }
    }

    private static void requireCell(int x, int y) {
        if (!isOnMat(x, y)) {
            throw new IndexOutOfBoundsException("x and y are 0 to 12");
        }
    }

    private static void requireFlight(int direction, int force) {
        requireDirection(direction);
        if (force < 1 || force > MOST_FORCE) {
            throw new IllegalArgumentException("a force is 1 to 9");
        }
    }

    private static void requireLift(int many, int direction) {
        if (many < 1 || many > MOST_LIFTED) {
            throw new IllegalArgumentException("1 to 6 winks are lifted");
        }
        requireDirection(direction);
    }

    private static void requireDirection(int direction) {
        if (direction < 0 || direction >= DIRECTIONS) {
            throw new IllegalArgumentException("a direction is 0 to 7");
        }
    }

    private static boolean isWink(int wink) {
        return wink >= 0 && wink < WINKS;
    }

    private static boolean isColour(int colour) {
        return colour >= 0 && colour < COLOURS;
    }

    private static boolean isOnMat(int x, int y) {
        return x >= 0 && x < SIDE && y >= 0 && y < SIDE;
    }

    // ---- winks, cells and directions

    private static int colourOf(int wink) {
        return wink / WINKS_EACH;
    }

    private static int teamOf(int wink) {
        return colourOf(wink) % 2;
    }

    private static boolean isLarge(int wink) {
        return wink % WINKS_EACH < 2;
    }

    private static int stepsOf(int wink, int force) {
        return isLarge(wink) ? force : force + 1;
    }

    private static int cellAt(int x, int y) {
        return SIDE * y + x;
    }

    private static int baseOf(int colour) {
        switch (colour) {
            case 0: return cellAt(0, 0);
            case 1: return cellAt(SIDE - 1, 0);
            case 2: return cellAt(SIDE - 1, SIDE - 1);
            default: return cellAt(0, SIDE - 1);
        }
    }

    private static int eastOf(int direction) {
        return direction >= 1 && direction <= 3 ? 1 : direction >= 5 ? -1 : 0;
    }

    private static int southOf(int direction) {
        return direction >= 3 && direction <= 5 ? 1 : direction == 2 || direction == 6 ? 0 : -1;
    }

    /** The cell beside another one; NONE beyond the mat. */
    private static int cellBeside(int x, int y, int direction) {
        int besideX = x + eastOf(direction);
        int besideY = y + southOf(direction);
        return isOnMat(besideX, besideY) ? cellAt(besideX, besideY) : NONE;
    }

    /** The cell of the last step of a flight, the cup too; NONE if it is off. */
    private static int landing(int cell, int direction, int steps) {
        int x = cell % SIDE;
        int y = cell / SIDE;
        int east = eastOf(direction);
        int south = southOf(direction);
        boolean bounced = false;
        for (int step = 0; step < steps; step++) {
            if (!isOnMat(x + east, y + south)) {
                east = -east;
                south = -south;
                if (bounced || !isOnMat(x + east, y + south)) {
                    return NONE;
                }
                bounced = true;
            }
            x += east;
            y += south;
        }
        return cellAt(x, y);
    }

    /** Where a wink lies behind a flight: one that is off comes to its base. */
    private static int restingCell(int wink, int end) {
        return end == NONE ? baseOf(colourOf(wink)) : end;
    }

    private static int flightAnswer(int end) {
        return end == CUP ? ANSWER_POTTED : end;
    }

    /** Where the winks lie. Links between neighbours in a pile spare searches for what is covered. */
    private static final class Mat {
        /** NONE for a potted wink. */
        private final int[] cell = new int[WINKS];
        private final int[] below = new int[WINKS];
        private final int[] above = new int[WINKS];

        Mat() {
            for (int wink = 0; wink < WINKS; wink++) {
                int place = wink % WINKS_EACH;
                cell[wink] = baseOf(colourOf(wink));
                below[wink] = place == 0 ? NONE : wink - 1;
                above[wink] = place == WINKS_EACH - 1 ? NONE : wink + 1;
            }
        }

        void copyFrom(Mat other) {
            System.arraycopy(other.cell, 0, cell, 0, WINKS);
            System.arraycopy(other.below, 0, below, 0, WINKS);
            System.arraycopy(other.above, 0, above, 0, WINKS);
        }

        /** Moves a wink, and all that lie on it, on top of the pile at a cell; at the cup they are potted. */
        void move(int lowest, int to) {
            int left = below[lowest];
            if (isWink(left)) {
                above[left] = NONE;
            }
            // They leave their cell first: it may be the one that they come to.
            setCells(lowest, NONE);
            if (to == CUP) {
                separate(lowest);
                return;
            }
            int top = topAt(to);
            setCells(lowest, to);
            below[lowest] = top;
            if (isWink(top)) {
                above[top] = lowest;
            }
        }

        private void setCells(int lowest, int to) {
            int wink = lowest;
            for (int k = 0; k < WINKS && isWink(wink); k++) {
                cell[wink] = to;
                wink = above[wink];
            }
        }

        private void separate(int lowest) {
            int wink = lowest;
            for (int k = 0; k < WINKS && isWink(wink); k++) {
                int next = above[wink];
                below[wink] = NONE;
                above[wink] = NONE;
                wink = next;
            }
        }

        boolean isPotted(int wink) {
            return cell[wink] == NONE;
        }

        boolean isCovered(int wink) {
            return above[wink] != NONE;
        }

        int placeOf(int wink) {
            if (isPotted(wink)) {
                return NONE;
            }
            int place = 0;
            int under = below[wink];
            for (int k = 0; k < WINKS && isWink(under); k++) {
                place++;
                under = below[under];
            }
            return place;
        }

        int topAt(int where) {
            for (int wink = 0; wink < WINKS; wink++) {
                if (cell[wink] == where && above[wink] == NONE) {
                    return wink;
                }
            }
            return NONE;
        }

        int bottomAt(int where) {
            for (int wink = 0; wink < WINKS; wink++) {
                if (cell[wink] == where && below[wink] == NONE) {
                    return wink;
                }
            }
            return NONE;
        }

        /** The lowest one of so many winks from the top on; NONE if there are not so many. */
        int lowestOfUpper(int where, int many) {
            int wink = topAt(where);
            for (int k = 1; k < many && isWink(wink); k++) {
                wink = below[wink];
            }
            return wink;
        }

        int heightAt(int where) {
            int height = 0;
            for (int wink = 0; wink < WINKS; wink++) {
                if (cell[wink] == where) {
                    height++;
                }
            }
            return height;
        }

        int coloursAt(int where) {
            int mask = 0;
            for (int wink = 0; wink < WINKS; wink++) {
                if (cell[wink] == where) {
                    mask |= 1 << colourOf(wink);
                }
            }
            return mask;
        }

        /** Each pile has one such wink, so that going over them goes over the piles. */
        private boolean isBottom(int wink) {
            return cell[wink] != NONE && below[wink] == NONE;
        }

        int piles() {
            int piles = 0;
            for (int wink = 0; wink < WINKS; wink++) {
                if (isBottom(wink)) {
                    piles++;
                }
            }
            return piles;
        }

        int highest() {
            int highest = 0;
            for (int wink = 0; wink < WINKS; wink++) {
                if (isBottom(wink)) {
                    highest = Math.max(highest, heightAt(cell[wink]));
                }
            }
            return highest;
        }

        int coveredByPiles() {
            int covered = 0;
            for (int wink = 0; wink < WINKS; wink++) {
                if (isBottom(wink)) {
                    covered += heightAt(cell[wink]) - 1;
                }
            }
            return covered;
        }

        int coveredByWinks() {
            return coveredOfTeam(0) + coveredOfTeam(1);
        }

        int coveredOfTeam(int team) {
            return coveredOf(team) + coveredOf(team + 2);
        }

        int coveredOf(int colour) {
            int covered = 0;
            for (int w = 0; w < WINKS_EACH; w++) {
                if (isCovered(WINKS_EACH * colour + w)) {
                    covered++;
                }
            }
            return covered;
        }

        int potted() {
            int potted = 0;
            for (int colour = 0; colour < COLOURS; colour++) {
                potted += pottedOf(colour);
            }
            return potted;
        }

        int pottedOf(int colour) {
            int potted = 0;
            for (int w = 0; w < WINKS_EACH; w++) {
                if (cell[WINKS_EACH * colour + w] == NONE) {
                    potted++;
                }
            }
            return potted;
        }

        boolean isAllPotted(int colour) {
            return pottedOf(colour) == WINKS_EACH;
        }

        boolean isOver() {
            for (int colour = 0; colour < COLOURS; colour++) {
                if (isAllPotted(colour)) {
                    return true;
                }
            }
            return false;
        }

        int pointsOf(int colour) {
            int base = baseOf(colour);
            int points = 0;
            for (int w = 0; w < WINKS_EACH; w++) {
                int wink = WINKS_EACH * colour + w;
                if (isPotted(wink)) {
                    points += 3;
                } else if (!isCovered(wink) && cell[wink] != base) {
                    points++;
                }
            }
            return points;
        }

        int pointsOfTeam(int team) {
            return pointsOf(team) + pointsOf(team + 2);
        }

        int leadOf(int team) {
            return pointsOfTeam(team) - pointsOfTeam(1 - team);
        }

        int othersBelow(int colour) {
            int others = 0;
            for (int wink = 0; wink < WINKS; wink++) {
                if (colourOf(wink) != colour && liesBelow(wink, colour)) {
                    others++;
                }
            }
            return others;
        }

        private boolean liesBelow(int wink, int colour) {
            int over = above[wink];
            for (int k = 0; k < WINKS && isWink(over); k++) {
                if (colourOf(over) == colour) {
                    return true;
                }
                over = above[over];
            }
            return false;
        }
    }

    /** All that undo restores. */
    private static final class State {
        private final Mat mat = new Mat();
        private final int[] flights = new int[WINKS];
        private final int[] fouls = new int[COLOURS];
        /** Turns that are lost and were not passed over yet. */
        private final int[] lost = new int[COLOURS];
        private int turn = 0;
        private int lifts = 0;
        private int setting = 3;

        void copyFrom(State other) {
            mat.copyFrom(other.mat);
            System.arraycopy(other.flights, 0, flights, 0, WINKS);
            System.arraycopy(other.fouls, 0, fouls, 0, COLOURS);
            System.arraycopy(other.lost, 0, lost, 0, COLOURS);
            turn = other.turn;
            lifts = other.lifts;
            setting = other.setting;
        }

        int whyNotFlown(int wink) {
            if (mat.isOver()) {
                return 1;
            }
            if (colourOf(wink) != turn) {
                return 2;
            }
            if (mat.isPotted(wink)) {
                return 3;
            }
            return mat.isCovered(wink) ? 4 : 0;
        }

        int whyNotLifted(int x, int y, int many, int direction) {
            if (mat.isOver()) {
                return 1;
            }
            int cell = cellAt(x, y);
            if (mat.lowestOfUpper(cell, many) == NONE) {
                return 2;
            }
            if (colourOf(mat.topAt(cell)) != turn) {
                return 3;
            }
            if (many > setting) {
                return 4;
            }
            return cellBeside(x, y, direction) == NONE ? 5 : 0;
        }

        /** A flight that is allowed; the answer is that of fly(). */
        int carryOutFlight(int wink, int direction, int force) {
            int colour = colourOf(wink);
            int end = landing(mat.cell[wink], direction, stepsOf(wink, force));
            mat.move(wink, restingCell(wink, end));
            flights[wink]++;
            if (end == NONE) {
                fouls[colour]++;
                lost[colour]++;
            }
            if (end != CUP || mat.isAllPotted(colour)) {
                passTurn();
            }
            return flightAnswer(end);
        }

        /** A lift that is allowed. */
        void carryOutLift(int x, int y, int many, int direction) {
            int lowest = mat.lowestOfUpper(cellAt(x, y), many);
            if (isWink(lowest)) {
                mat.move(lowest, cellBeside(x, y, direction));
            }
            lifts++;
            passTurn();
        }

        private void passTurn() {
            // Each colour may be passed over once for a lost turn, so two rounds are enough.
            int colour = turn;
            for (int k = 0; k < 2 * COLOURS; k++) {
                colour = (colour + 1) % COLOURS;
                if (mat.isAllPotted(colour)) {
                    continue;
                }
                if (lost[colour] == 0) {
                    turn = colour;
                    return;
                }
                lost[colour]--;
            }
        }

        int allFlights() {
            int all = 0;
            for (int wink = 0; wink < WINKS; wink++) {
                all += flights[wink];
            }
            return all;
        }

        int allFouls() {
            int all = 0;
            for (int colour = 0; colour < COLOURS; colour++) {
                all += fouls[colour];
            }
            return all;
        }
    }

    /** The saved states, in a ring of which the oldest one is written over. */
    private static final class Past {
        private final State[] saved = new State[MOST_SAVED];
        private int next = 0;
        private int many = 0;

        Past() {
            for (int k = 0; k < MOST_SAVED; k++) {
                saved[k] = new State();
            }
        }

        void save(State state) {
            if (saved[next] != null) {
                saved[next].copyFrom(state);
            }
            next = (next + 1) % MOST_SAVED;
            many = Math.min(many + 1, MOST_SAVED);
        }

        void restore(State state) {
            next = (next + MOST_SAVED - 1) % MOST_SAVED;
            many--;
            if (saved[next] != null) {
                state.copyFrom(saved[next]);
            }
        }
    }

    /** The buffer, and what of it is a game as a text. */
    private static final class GameText {
        private static final int ERROR = -1;
        private static final int PART_START = 0;
        private static final int PART_END = 8;

        private final int[] codes = new int[MOST_CODES];
        private int length = 0;

        void add(int code) {
            if (length < MOST_CODES) {
                codes[length] = code;
                length++;
            }
        }

        int codeAt(int index) {
            return index >= 0 && index < length ? codes[index] : 0;
        }

        int errorIndex() {
            int state = PART_START;
            for (int k = 0; k < length; k++) {
                state = stateBehind(state, codeAt(k));
                if (state == ERROR) {
                    return k;
                }
            }
            return length;
        }

        boolean isComplete() {
            int state = PART_START;
            for (int k = 0; k < length; k++) {
                state = stateBehind(state, codeAt(k));
            }
            return state == PART_END;
        }

        private static int stateBehind(int state, int code) {
            switch (state) {
                case PART_START: return code == 'f' ? 1 : code == 'l' ? 4 : ERROR;
                case 1: return between(code, '0', '3') ? 2 : ERROR;
                case 2: return between(code, '0', '7') ? 3 : ERROR;
                case 3: return between(code, '1', '9') ? PART_END : ERROR;
                case 4: return between(code, 'a', 'm') ? 5 : ERROR;
                case 5: return between(code, 'a', 'm') ? 6 : ERROR;
                case 6: return between(code, '1', '6') ? 7 : ERROR;
                case 7: return between(code, '0', '7') ? PART_END : ERROR;
                case PART_END: return code == ';' ? PART_START : ERROR;
                default: return ERROR;
            }
        }

        private static boolean between(int code, int least, int most) {
            return code >= least && code <= most;
        }
    }

    /** In how many flights a wink can be in the cup. */
    private static final class Routes {
        /** By size and cell, on which alone it depends; 0 for what was not asked yet. */
        private final int[] known = new int[2 * CELLS];
        private final int[] distance = new int[CELLS];
        private final int[] queue = new int[CELLS];

        int fewest(int cell, boolean large) {
            if (cell < 0 || cell >= CELLS) {
                return NONE;
            }
            int index = large ? cell : CELLS + cell;
            if (known[index] == 0) {
                known[index] = search(cell, large ? 0 : 1);
            }
            return known[index];
        }

        /** Goes from cell to cell, the nearest first, until a flight leads to the cup. */
        private int search(int start, int more) {
            Arrays.fill(distance, NONE);
            distance[start] = 0;
            queue[0] = start;
            int found = 1;
            for (int k = 0; k < found && k < CELLS; k++) {
                int cell = queue[k];
                for (int flight = 0; flight < DIRECTIONS * MOST_FORCE; flight++) {
                    int end = landing(cell, flight / MOST_FORCE, flight % MOST_FORCE + 1 + more);
                    if (end == CUP) {
                        return distance[cell] + 1;
                    }
                    if (end != NONE && distance[end] == NONE && found < CELLS) {
                        distance[end] = distance[cell] + 1;
                        queue[found] = end;
                        found++;
                    }
                }
            }
            return NONE;
        }
    }
}
