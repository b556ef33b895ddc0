import java.util.ArrayDeque;
import java.util.ArrayList;
import java.util.Arrays;
import java.util.Deque;
import java.util.List;
import java.util.regex.Matcher;
import java.util.regex.Pattern;

/** The game a second time, written for plainness: squares as rows and columns, whole copies of states, texts by patterns. */
final class PlainModel {
    private static final String ENTRY = "[a-f][1-6](?:[-+][1-9]|=[0-9])";
    private static final Pattern TEXT = Pattern.compile(ENTRY + "(?:;" + ENTRY + ")*");
    private static final int[] STEEPNESS = {1, 3, 2};
    private static final int[] SOUTHWARD = {0, 1, 0, -1};
    private static final int[] EASTWARD = {1, 0, -1, 0};

    private static final class State {
        int[][] height = new int[6][6];
        int[][] owner = new int[6][6];
        int[][] crowd = new int[6][6];
        int[] score = new int[2];
        int hour;
        int player;
        int turns;
        int refused;

        State() {
            for (int r = 0; r < 6; r++) {
                Arrays.fill(owner[r], -1);
                Arrays.fill(crowd[r], 1);
            }
        }

        State copy() {
            State copy = new State();
            for (int r = 0; r < 6; r++) {
                copy.height[r] = height[r].clone();
                copy.owner[r] = owner[r].clone();
                copy.crowd[r] = crowd[r].clone();
            }
            copy.score = score.clone();
            copy.hour = hour;
            copy.player = player;
            copy.turns = turns;
            copy.refused = refused;
            return copy;
        }

        /** The towers that shade a square at an hour. */
        List<Integer> shaders(int square, int at) {
            List<Integer> shaders = new ArrayList<>();
            for (int from = 0; from < 36; from++) {
                int distance = distance(square, from, at);
                boolean tower = owner[from / 6][from % 6] >= 0;
                int shadow = height[from / 6][from % 6] - distance * STEEPNESS[at % 3];
                if (tower && distance > 0 && shadow > height[square / 6][square % 6]) {
                    shaders.add(from);
                }
            }
            return shaders;
        }

        /** How far toward the sun a square lies from another one; 0 if it does not. */
        static int distance(int square, int from, int at) {
            int south = from / 6 - square / 6;
            int east = from % 6 - square % 6;
            int distance = south * SOUTHWARD[at / 3] + east * EASTWARD[at / 3];
            boolean line = south == distance * SOUTHWARD[at / 3] && east == distance * EASTWARD[at / 3];
            return line && distance > 0 ? distance : 0;
        }

        int dark(int square, int at) {
            return shaders(square, at).isEmpty() ? 0 : 1;
        }

        int owner(int square) {
            return owner[square / 6][square % 6];
        }

        int paid(int who) {
            int paid = 0;
            for (int square = 0; square < 36; square++) {
                paid += owner(square) == who && dark(square, hour) == 0 ? crowd[square / 6][square % 6] : 0;
            }
            return paid;
        }

        int towers() {
            int towers = 0;
            for (int square = 0; square < 36; square++) {
                towers += owner(square) >= 0 ? 1 : 0;
            }
            return towers;
        }

        int why(int square) {
            if (owner(square) >= 0 && owner(square) != player) {
                return 1;
            }
            if (height[square / 6][square % 6] == 9) {
                return 2;
            }
            return dark(square, hour) * 3;
        }

        void build(int square) {
            height[square / 6][square % 6]++;
            owner[square / 6][square % 6] = player;
        }

        void turn() {
            int[] paid = {paid(0), paid(1)};
            score[0] += paid[0];
            score[1] += paid[1];
            hour = hour == 11 ? 0 : hour + 1;
            player = player == 0 ? 1 : 0;
            turns++;
        }
    }

    private State now = new State();
    private final State[] slots = new State[2];
    private final Deque<State> saved = new ArrayDeque<>();
    private String buffer = "";

    private void save() {
        saved.addLast(now.copy());
        if (saved.size() > 6) {
            saved.removeFirst();
        }
    }

    private static void index(boolean fits) {
        if (!fits) {
            throw new IndexOutOfBoundsException();
        }
    }

    private static void argument(boolean fits) {
        if (!fits) {
            throw new IllegalArgumentException();
        }
    }

    private static void state(boolean fits) {
        if (!fits) {
            throw new IllegalStateException();
        }
    }

    private static void square(int square) {
        index(square >= 0 && square <= 35);
    }

    int raise(int square) {
        square(square);
        save();
        int why = now.why(square);
        if (why > 0) {
            now.refused++;
            return why;
        }
        now.build(square);
        now.turn();
        return 10 + now.height[square / 6][square % 6];
    }

    int rest() {
        save();
        int player = now.player;
        int before = now.score[player];
        now.turn();
        return now.score[player] - before;
    }

    int crowd(int square, int crowd) {
        square(square);
        argument(crowd >= 0 && crowd <= 9);
        save();
        int before = now.crowd[square / 6][square % 6];
        now.crowd[square / 6][square % 6] = crowd;
        return before;
    }

    int tear(int square) {
        square(square);
        save();
        int before = now.height[square / 6][square % 6];
        now.height[square / 6][square % 6] = 0;
        now.owner[square / 6][square % 6] = -1;
        return before;
    }

    int hour(int hour) {
        argument(hour >= 0 && hour <= 11);
        save();
        int before = now.hour;
        now.hour = hour;
        return before;
    }

    int append(int code) {
        argument(code >= 33 && code <= 126);
        state(buffer.length() < 60);
        buffer += (char) code;
        return buffer.length();
    }

    int clearBuffer() {
        int before = buffer.length();
        buffer = "";
        return before;
    }

    int firstError() {
        for (int length = 1; length <= buffer.length(); length++) {
            Matcher matcher = TEXT.matcher(buffer.substring(0, length));
            if (!matcher.matches() && !matcher.hitEnd()) {
                return length - 1;
            }
        }
        return buffer.length();
    }

    int load() {
        argument(TEXT.matcher(buffer).matches());
        save();
        for (String entry : buffer.split(";")) {
            int r = "abcdef".indexOf(entry.charAt(0));
            int c = "123456".indexOf(entry.charAt(1));
            int number = Integer.parseInt(entry.substring(3));
            if (entry.charAt(2) == '=') {
                now.crowd[r][c] = number;
            } else {
                now.height[r][c] = number;
                now.owner[r][c] = entry.charAt(2) == '+' ? 0 : 1;
            }
        }
        buffer = "";
        return now.towers();
    }

    int keep(int slot) {
        argument(slot == 0 || slot == 1);
        slots[slot] = now.copy();
        return now.towers();
    }

    int goBack(int slot) {
        argument(slot == 0 || slot == 1);
        state(slots[slot] != null);
        save();
        now = slots[slot].copy();
        return now.towers();
    }

    int undo() {
        state(!saved.isEmpty());
        now = saved.removeLast();
        return saved.size();
    }

    int squareOf(int square, int what) {
        square(square);
        argument(what >= 0 && what <= 7);
        int shaded = 0;
        int mask = 0;
        for (int other = 0; other < 36; other++) {
            shaded += now.shaders(other, now.hour).contains(square) ? 1 : 0;
        }
        for (int hour = 0; hour < 12; hour++) {
            mask += now.dark(square, hour) << hour;
        }
        int dark = now.dark(square, now.hour);
        int[] answers = {now.height[square / 6][square % 6], now.owner(square), now.crowd[square / 6][square % 6], dark,
            dark, now.shaders(square, now.hour).size(), shaded, mask};
        return answers[what];
    }

    int playerOf(int player, int what) {
        index(player == 0 || player == 1);
        argument(what >= 0 && what <= 5);
        int[] answers = {now.score[player], 0, 0, 0, now.paid(player), 0};
        for (int square = 0; square < 36; square++) {
            List<Integer> shaders = now.shaders(square, now.hour);
            if (now.owner(square) == player) {
                answers[1]++;
                answers[2] += now.height[square / 6][square % 6];
                answers[3] += shaders.isEmpty() ? 0 : 1;
            } else if (now.owner(square) >= 0) {
                answers[5] += shaders.stream().anyMatch(from -> now.owner(from) == player) ? 1 : 0;
            }
        }
        return answers[what];
    }

    private int darkAt(int hour) {
        int dark = 0;
        for (int square = 0; square < 36; square++) {
            dark += now.dark(square, hour);
        }
        return dark;
    }

    int count(int what) {
        argument(what >= 0 && what <= 9);
        int crowds = 0;
        for (int[] row : now.crowd) {
            crowds += Arrays.stream(row).sum();
        }
        int[] answers = {now.hour, now.hour / 3, STEEPNESS[now.hour % 3], now.player, now.turns, darkAt(now.hour),
            now.towers(), crowds, now.refused, saved.size()};
        return answers[what];
    }

    int whyNot(int square) {
        square(square);
        return now.why(square);
    }

    int ifRaised(int square) {
        square(square);
        if (now.why(square) > 0) {
            return -999;
        }
        State then = now.copy();
        then.build(square);
        return then.paid(now.player) - then.paid(1 - now.player);
    }

    int bestSquare() {
        int best = -1;
        for (int square = 35; square >= 0; square--) {
            int worth = ifRaised(square);
            if (worth > -999 && (best < 0 || worth >= ifRaised(best))) {
                best = square;
            }
        }
        return best;
    }

    int needed(int from, int square) {
        square(from);
        square(square);
        int distance = State.distance(square, from, now.hour);
        for (int height = 1; height <= 9 && distance > 0; height++) {
            if (height - distance * STEEPNESS[now.hour % 3] > now.height[square / 6][square % 6]) {
                return height;
            }
        }
        return -1;
    }

    int darkestHour() {
        int darkest = 11;
        for (int hour = 10; hour >= 0; hour--) {
            darkest = darkAt(hour) >= darkAt(darkest) ? hour : darkest;
        }
        return darkest;
    }

    double darkShare() {
        return (double) darkAt(now.hour) / 36;
    }

    long digest() {
        List<Long> values = new ArrayList<>();
        for (int what = 0; what <= 9; what++) {
            values.add((long) count(what));
        }
        for (int square = 0; square < 36; square++) {
            for (int what = 0; what <= 7; what++) {
                values.add((long) squareOf(square, what));
            }
            values.add((long) whyNot(square));
            values.add((long) ifRaised(square));
        }
        for (int player = 0; player <= 1; player++) {
            for (int what = 0; what <= 5; what++) {
                values.add((long) playerOf(player, what));
            }
        }
        values.add((long) bestSquare());
        values.add((long) needed(0, 5));
        values.add((long) needed(5, 0));
        values.add((long) needed(30, 0));
        values.add((long) needed(0, 30));
        values.add((long) darkestHour());
        values.add(Double.doubleToLongBits(darkShare()));
        values.add(slots[0] == null ? 0L : 1L);
        values.add(slots[1] == null ? 0L : 1L);
        values.add((long) buffer.length());
        buffer.chars().forEach(code -> values.add((long) code));
        long hash = 3631;
        for (long value : values) {
            hash = 31 * hash + value;
        }
        return hash;
    }
}
