/** Compares answers with those that are due, tells the wrong ones and ends the test. */
final class Due {
    private static int wrong = 0;
    private static int asked = 0;

    private Due() {
    }

    static void same(String call, long got, long want) {
        asked++;
        if (got != want) {
            tell(call + " answered " + got + ", due is " + want);
        }
    }

    static void same(String call, double got, double want) {
        asked++;
        if (got != want) {
            tell(call + " answered " + got + ", due is " + want);
        }
    }

    static void same(String call, Object got, Object want) {
        asked++;
        if (!got.equals(want)) {
            tell(call + " answered " + got + ", due is " + want);
        }
    }

    static void index(String call, Runnable run) {
        thrown(call, run, IndexOutOfBoundsException.class);
    }

    static void argument(String call, Runnable run) {
        thrown(call, run, IllegalArgumentException.class);
    }

    static void state(String call, Runnable run) {
        thrown(call, run, IllegalStateException.class);
    }

    private static void thrown(String call, Runnable run, Class<?> want) {
        asked++;
        try {
            run.run();
            tell(call + " threw nothing, due is " + want.getName());
        } catch (RuntimeException e) {
            if (e.getClass() != want) {
                tell(call + " threw " + e + ", due is " + want.getName());
            }
        }
    }

    static void tell(String line) {
        wrong++;
        if (wrong <= 40) {
            System.out.println(line);
        }
    }

    static void finish() {
        System.out.println(asked + " answers, " + wrong + " not as due");
        if (wrong != 0 || asked == 0) {
            System.exit(1);
        }
    }

    /** Appends a text to the buffer, character by character. */
    static void write(TowerShades game, String text) {
        for (int i = 0; i < text.length(); i++) {
            game.append(text.charAt(i));
        }
    }

    /** A game whose field is told by a text. */
    static TowerShades game(String text) {
        TowerShades game = new TowerShades();
        game.clearBuffer();
        write(game, text);
        game.load();
        return game;
    }
}
