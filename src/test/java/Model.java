import java.util.ArrayList;
import java.util.Collections;
import java.util.HashMap;
import java.util.LinkedList;
import java.util.List;
import java.util.Map;
import java.util.TreeMap;

/** The document once more, as plainly as can be: piles are lists by cell, states are copies of the whole. */
final class Model {
    /** What undo restores. */
    private static final class Table {
        final TreeMap<Integer, List<Integer>> piles = new TreeMap<>();
        final Map<Integer, Integer> flights = new HashMap<>();
        final Map<Integer, Integer> fouls = new HashMap<>();
        final Map<Integer, Integer> lost = new HashMap<>();
        int turn = 0;
        int lifts = 0;
        int setting = 3;

        Table copy() {
            Table copy = new Table();
            for (Map.Entry<Integer, List<Integer>> entry : piles.entrySet()) {
                copy.piles.put(entry.getKey(), new ArrayList<>(entry.getValue()));
            }
            copy.flights.putAll(flights);
            copy.fouls.putAll(fouls);
            copy.lost.putAll(lost);
            copy.turn = turn;
            copy.lifts = lifts;
            copy.setting = setting;
            return copy;
        }

        int cellOf(int wink) {
            for (Map.Entry<Integer, List<Integer>> entry : piles.entrySet()) {
                if (entry.getValue().contains(wink)) {
                    return entry.getKey();
                }
            }
            return -1;
        }

        boolean covered(int wink) {
            int cell = cellOf(wink);
            return cell != -1 && piles.get(cell).indexOf(wink) < piles.get(cell).size() - 1;
        }

        void lay(List<Integer> winks, int cell) {
            for (int wink : winks) {
                int from = cellOf(wink);
                if (from != -1) {
                    piles.get(from).remove(Integer.valueOf(wink));
                    if (piles.get(from).isEmpty()) {
                        piles.remove(from);
                    }
                }
            }
            if (cell != 84) {
                piles.computeIfAbsent(cell, key -> new ArrayList<>()).addAll(winks);
            }
        }

        int left(int colour) {
            int left = 0;
            for (int wink = 4 * colour; wink < 4 * colour + 4; wink++) {
                left += cellOf(wink) == -1 ? 0 : 1;
            }
            return left;
        }

        boolean over() {
            return left(0) == 0 || left(1) == 0 || left(2) == 0 || left(3) == 0;
        }

        int points(int colour) {
            int points = 0;
            for (int wink = 4 * colour; wink < 4 * colour + 4; wink++) {
                int cell = cellOf(wink);
                points += cell == -1 ? 3 : !covered(wink) && cell != BASES[colour] ? 1 : 0;
            }
            return points;
        }

        int why(int wink) {
            return over() ? 1 : wink / 4 != turn ? 2 : cellOf(wink) == -1 ? 3 : covered(wink) ? 4 : 0;
        }

        void next() {
            for (int tries = 0; tries < 100; tries++) {
                turn = (turn + 1) % 4;
                if (left(turn) > 0) {
                    if (lost.getOrDefault(turn, 0) == 0) {
                        return;
                    }
                    lost.merge(turn, -1, Integer::sum);
                }
            }
        }

        void fly(int wink, int end) {
            flights.merge(wink, 1, Integer::sum);
            lay(List.of(wink), end == -1 ? BASES[wink / 4] : end == 169 ? 84 : end);
            if (end == -1) {
                fouls.merge(wink / 4, 1, Integer::sum);
                lost.merge(wink / 4, 1, Integer::sum);
            }
            if (end != 169 || left(wink / 4) == 0) {
                next();
            }
        }

        int whyLift(int x, int y, int many, int direction) {
            List<Integer> pile = piles.getOrDefault(13 * y + x, List.of());
            if (over()) {
                return 1;
            }
            if (pile.size() < many) {
                return 2;
            }
            if (pile.get(pile.size() - 1) / 4 != turn) {
                return 3;
            }
            int besideX = x + EAST[direction];
            int besideY = y + SOUTH[direction];
            boolean beside = besideX >= 0 && besideX <= 12 && besideY >= 0 && besideY <= 12;
            return many > setting ? 4 : beside ? 0 : 5;
        }

        void lift(int x, int y, int many, int direction) {
            List<Integer> pile = piles.get(13 * y + x);
            List<Integer> upper = new ArrayList<>(pile.subList(pile.size() - many, pile.size()));
            lay(upper, 13 * (y + SOUTH[direction]) + x + EAST[direction]);
            lifts++;
            next();
        }
    }

    private static final int[] BASES = {0, 12, 168, 156};
    private static final int[] EAST = {0, 1, 1, 1, 0, -1, -1, -1};
    private static final int[] SOUTH = {-1, -1, 0, 1, 1, 1, 0, -1};

    private Table table = new Table();
    private Table snapshot = null;
    private final LinkedList<Table> saved = new LinkedList<>();
    private String buffer = "";

    Model() {
        for (int colour = 0; colour < 4; colour++) {
            table.piles.put(BASES[colour], new ArrayList<>(List.of(4 * colour, 4 * colour + 1, 4 * colour + 2, 4 * colour + 3)));
        }
    }

    private void save() {
        saved.add(table.copy());
        if (saved.size() > 6) {
            saved.removeFirst();
        }
    }

    private static void index(boolean right) {
        if (!right) {
            throw new IndexOutOfBoundsException();
        }
    }

    private static void argument(boolean right) {
        if (!right) {
            throw new IllegalArgumentException();
        }
    }

    private static void state(boolean right) {
        if (!right) {
            throw new IllegalStateException();
        }
    }

    private static boolean in(int number, int least, int most) {
        return number >= least && number <= most;
    }

    /** A path that goes to and fro: the cell of each step, -1 once it is off. */
    private static int end(int cell, boolean large, int direction, int force) {
        int x = cell % 13;
        int y = cell / 13;
        int sign = 1;
        int bounces = 0;
        for (int left = large ? force : force + 1; left > 0; left--) {
            int nextX = x + sign * EAST[direction];
            int nextY = y + sign * SOUTH[direction];
            while (!in(nextX, 0, 12) || !in(nextY, 0, 12)) {
                bounces++;
                if (bounces == 2) {
                    return -1;
                }
                sign = -sign;
                nextX = x + sign * EAST[direction];
                nextY = y + sign * SOUTH[direction];
            }
            x = nextX;
            y = nextY;
        }
        return x == 6 && y == 6 ? 169 : 13 * y + x;
    }

    int fly(int wink, int direction, int force) {
        index(in(wink, 0, 15));
        argument(in(direction, 0, 7) && in(force, 1, 9));
        state(table.why(wink) == 0);
        save();
        int end = lands(wink, direction, force);
        table.fly(wink, end);
        return end;
    }

    int lift(int x, int y, int many, int direction) {
        state(why(x, y, many, direction) == 0);
        save();
        table.lift(x, y, many, direction);
        return pile(x, y, 0);
    }

    int set(int winks) {
        argument(in(winks, 1, 6));
        save();
        int before = table.setting;
        table.setting = winks;
        return before;
    }

    int put(int wink, int x, int y) {
        index(in(wink, 0, 15) && in(x, 0, 12) && in(y, 0, 12));
        state(!table.over() && !table.covered(wink));
        save();
        table.lay(List.of(wink), 13 * y + x);
        return pile(x, y, 0);
    }

    int append(int code) {
        argument(in(code, 33, 126));
        state(buffer.length() < 60);
        buffer += (char) code;
        return buffer.length();
    }

    int clearBuffer() {
        int length = buffer.length();
        buffer = "";
        return length;
    }

    /** The longest beginning of the buffer that some way of going on completes. */
    int firstError() {
        String part = "(f[0-3][0-7][1-9]|l[a-m][a-m][1-6][0-7])";
        String[] ends = {"", "f001", "001", "01", "1", "aa10", "a10", "10", "0"};
        for (int length = buffer.length(); length > 0; length--) {
            for (String end : ends) {
                if ((buffer.substring(0, length) + end).matches(part + "(;" + part + ")*;?")) {
                    return length;
                }
            }
        }
        return 0;
    }

    int play() {
        argument(buffer.matches("(f[0-3][0-7][1-9]|l[a-m][a-m][1-6][0-7])(;(f[0-3][0-7][1-9]|l[a-m][a-m][1-6][0-7]))*"));
        save();
        String[] parts = buffer.split(";");
        buffer = "";
        for (int done = 0; done < parts.length; done++) {
            String part = parts[done];
            if (part.charAt(0) == 'f') {
                int wink = 4 * table.turn + part.charAt(1) - '0';
                if (table.why(wink) != 0) {
                    return done;
                }
                table.fly(wink, lands(wink, part.charAt(2) - '0', part.charAt(3) - '0'));
            } else {
                int x = part.charAt(1) - 'a';
                int y = part.charAt(2) - 'a';
                if (table.whyLift(x, y, part.charAt(3) - '0', part.charAt(4) - '0') != 0) {
                    return done;
                }
                table.lift(x, y, part.charAt(3) - '0', part.charAt(4) - '0');
            }
        }
        return parts.length;
    }

    int keep() {
        snapshot = table.copy();
        return count(2);
    }

    int goBack() {
        state(snapshot != null);
        save();
        table = snapshot.copy();
        return count(2);
    }

    int undo() {
        state(!saved.isEmpty());
        table = saved.removeLast();
        return saved.size();
    }

    int wink(int wink, int what) {
        index(in(wink, 0, 15));
        argument(in(what, 0, 6));
        int cell = table.cellOf(wink);
        int place = cell == -1 ? -1 : table.piles.get(cell).indexOf(wink);
        int[] numbers = {wink / 4, wink % 4 < 2 ? 1 : 0, cell, place, table.covered(wink) ? 1 : 0,
            table.flights.getOrDefault(wink, 0), table.why(wink)};
        return numbers[what];
    }

    int pile(int x, int y, int what) {
        index(in(x, 0, 12) && in(y, 0, 12));
        argument(in(what, 0, 3));
        List<Integer> pile = table.piles.getOrDefault(13 * y + x, List.of());
        int mask = 0;
        for (int wink : pile) {
            mask |= 1 << wink / 4;
        }
        int top = pile.isEmpty() ? -1 : pile.get(pile.size() - 1);
        int bottom = pile.isEmpty() ? -1 : pile.get(0);
        return new int[] {pile.size(), top, bottom, mask}[what];
    }

    int colour(int colour, int what) {
        index(in(colour, 0, 3));
        argument(in(what, 0, 6));
        int covered = 0;
        for (int wink = 4 * colour; wink < 4 * colour + 4; wink++) {
            covered += table.covered(wink) ? 1 : 0;
        }
        int below = 0;
        for (List<Integer> pile : table.piles.values()) {
            for (int k = 0; k < pile.size(); k++) {
                boolean under = false;
                for (int over : pile.subList(k + 1, pile.size())) {
                    under |= over / 4 == colour;
                }
                below += under && pile.get(k) / 4 != colour ? 1 : 0;
            }
        }
        int left = table.left(colour);
        int[] numbers = {4 - left, covered, left - covered, table.points(colour),
            table.fouls.getOrDefault(colour, 0), table.lost.getOrDefault(colour, 0), below};
        return numbers[what];
    }

    private static int sum(Map<Integer, Integer> numbers) {
        int sum = 0;
        for (int number : numbers.values()) {
            sum += number;
        }
        return sum;
    }

    int count(int what) {
        argument(in(what, 0, 13));
        int mat = 0;
        int highest = 0;
        for (List<Integer> pile : table.piles.values()) {
            mat += pile.size();
            highest = Math.max(highest, pile.size());
        }
        int covered = 0;
        for (int wink = 0; wink < 16; wink++) {
            covered += table.covered(wink) ? 1 : 0;
        }
        int[] numbers = {table.over() ? -1 : table.turn, table.over() ? 1 : 0, 16 - mat, mat - table.piles.size(), covered,
            table.piles.size(), highest, sum(table.flights), table.lifts, sum(table.fouls),
            table.points(0) + table.points(2), table.points(1) + table.points(3), table.setting, saved.size()};
        return numbers[what];
    }

    int why(int x, int y, int many, int direction) {
        index(in(x, 0, 12) && in(y, 0, 12));
        argument(in(many, 1, 6) && in(direction, 0, 7));
        return table.whyLift(x, y, many, direction);
    }

    int lands(int wink, int direction, int force) {
        index(in(wink, 0, 15));
        argument(in(direction, 0, 7) && in(force, 1, 9));
        int cell = table.cellOf(wink);
        return cell == -1 ? -2 : end(cell, wink % 4 < 2, direction, force);
    }

    int ifFlown(int wink, int direction, int force, int what) {
        index(in(wink, 0, 15));
        argument(in(direction, 0, 7) && in(force, 1, 9) && in(what, 0, 1));
        if (table.why(wink) != 0) {
            return -1000;
        }
        Table then = table.copy();
        then.fly(wink, lands(wink, direction, force));
        int own = wink / 4 % 2;
        if (what == 0) {
            return then.points(own) + then.points(own + 2) - then.points(1 - own) - then.points(3 - own);
        }
        int covered = 0;
        for (int other = 0; other < 16; other++) {
            covered += other / 4 % 2 != own && then.covered(other) ? 1 : 0;
        }
        return covered;
    }

    int best() {
        List<int[]> all = new ArrayList<>();
        for (int wink = 0; wink < 16; wink++) {
            for (int direction = 0; direction < 8 && table.why(wink) == 0; direction++) {
                for (int force = 1; force < 10; force++) {
                    int number = 100 * wink + 10 * direction + force;
                    all.add(new int[] {-ifFlown(wink, direction, force, 0), -ifFlown(wink, direction, force, 1), number});
                }
            }
        }
        if (all.isEmpty()) {
            return -1;
        }
        return Collections.min(all, java.util.Arrays::compare)[2];
    }

    int flightsTo(int wink) {
        index(in(wink, 0, 15));
        int cell = table.cellOf(wink);
        if (cell == -1) {
            return 0;
        }
        java.util.Set<Integer> reached = new java.util.TreeSet<>(List.of(cell));
        for (int flights = 1; flights < 200; flights++) {
            java.util.Set<Integer> more = new java.util.TreeSet<>(reached);
            for (int from : reached) {
                for (int flight = 0; flight < 72; flight++) {
                    more.add(end(from, wink % 4 < 2, flight / 9, flight % 9 + 1));
                }
            }
            if (more.contains(169)) {
                return flights;
            }
            more.remove(-1);
            reached = more;
        }
        return -1;
    }

    double pottedShare() {
        return (double) count(2) / 16;
    }

    float meanPile() {
        return count(5) == 0 ? 0.0f : (float) (16 - count(2)) / count(5);
    }

    boolean hasSnapshot() {
        return snapshot != null;
    }

    String text() {
        return buffer;
    }
}
