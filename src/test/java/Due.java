/** Compares answers with those that are due, tells the wrong ones and ends the test. */
final class Due {
    private static final int[] NO_SQUARES = {-1, 36, Integer.MIN_VALUE, Integer.MAX_VALUE};

    private static int wrong = 0;
    private static int asked = 0;
    private static String heading = "";

    /** A call on a square, which may throw. */
    interface SquareCall {
        void of(int square);
    }

    private Due() {
    }

    /** Puts words ahead of each wrong answer that is told from here on. */
    static void under(String words) {
        heading = words;
    }

    static int asked() {
        return asked;
    }

    static void same(String call, long got, long want) {
        asked++;
        if (got != want) {
            tell(call + " answered " + got + ", due is " + want);
        }
    }

    static void same(String call, double got, double want) {
        asked++;
        if (got != want) {
            tell(call + " answered " + got + ", due is " + want);
        }
    }

    static void same(String call, Object got, Object want) {
        asked++;
        if (!got.equals(want)) {
            tell(call + " answered " + got + ", due is " + want);
        }
    }

    static void index(String call, Runnable run) {
        thrown(call, run, IndexOutOfBoundsException.class);
    }

    static void argument(String call, Runnable run) {
        thrown(call, run, IllegalArgumentException.class);
    }

    static void state(String call, Runnable run) {
        thrown(call, run, IllegalStateException.class);
    }

    /** The call throws for each square that is none: the nearest ones and the farthest ones. */
    static void noSquare(String call, SquareCall run) {
        for (int square : NO_SQUARES) {
            index(call + " of " + square, () -> run.of(square));
        }
    }

    private static void thrown(String call, Runnable run, Class<?> want) {
        asked++;
        try {
            run.run();
            tell(call + " threw nothing, due is " + want.getName());
        } catch (RuntimeException e) {
            if (e.getClass() != want) {
                tell(call + " threw " + e + ", due is " + want.getName());
            }
        }
    }

    /** Compares all that two games hold, the saved states and the snapshots too; it uses these up. */
    static void alike(String call, TowerShades got, TowerShades want) {
        same(call + ": the digest", got.digest(), want.digest());
        int saved = Math.min(got.count(9), want.count(9));
        for (int left = saved - 1; left >= 0; left--) {
            same(call + ": left", got.undo(), want.undo());
            same(call + ": the digest with " + left + " left", got.digest(), want.digest());
        }
        for (int slot = 0; slot < 2; slot++) {
            same(call + ": the slot " + slot, backTo(got, slot), backTo(want, slot));
            same(call + ": the digest of the slot " + slot, got.digest(), want.digest());
        }
    }

    private static int backTo(TowerShades game, int slot) {
        try {
            return game.goBack(slot);
        } catch (IllegalStateException e) {
            return -1;
        }
    }

    static void tell(String line) {
        wrong++;
        if (wrong <= 40) {
            System.out.println(heading + line);
        }
    }

    static void finish() {
        System.out.println(asked + " answers, " + wrong + " not as due");
        if (wrong != 0 || asked == 0) {
            System.exit(1);
        }
    }

    /** Appends a text to the buffer, character by character. */
    static void write(TowerShades game, String text) {
        for (int i = 0; i < text.length(); i++) {
            game.append(text.charAt(i));
        }
    }

    /** A game whose field is told by a text. */
    static TowerShades game(String text) {
        TowerShades game = new TowerShades();
        game.clearBuffer();
        write(game, text);
        game.load();
        return game;
    }

    /** The same, at an hour. */
    static TowerShades game(String text, int hour) {
        TowerShades game = game(text);
        game.hour(hour);
        return game;
    }

    /** A game in which nothing is empty: six saved states, both slots, a buffer, scores, turns, refused ones. */
    static TowerShades rich() {
        TowerShades game = game("a6+5;a5-1;a1=4;b2-3;f6+9;c3=0");
        game.raise(5);
        game.raise(5);
        game.keep(0);
        game.rest();
        game.raise(4);
        game.crowd(20, 7);
        game.keep(1);
        game.tear(35);
        game.rest();
        game.hour(9);
        write(game, "b3+");
        return game;
    }

    /** A game with two saved states, so that one more drops none, with empty slots and a text in the buffer. */
    static TowerShades noSlots() {
        TowerShades game = game("a6+5;b2-3");
        game.raise(5);
        write(game, "b3");
        return game;
    }
}
