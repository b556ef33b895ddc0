/** Long runs of calls, each answer compared with that of the plain model; the digest stands for the whole state. */
public final class ModelTest {
    private static final int RUNS = 160;
    private static final int CALLS = 512;
    private static final String[] KINDS = {"throws.IndexOutOfBoundsException", "throws.IllegalArgumentException",
        "throws.IllegalStateException"};

    private interface Call {
        long answer();
    }

    private long seed;
    private final TowerShades game = new TowerShades();
    private final PlainModel model = new PlainModel();

    private ModelTest(long seed) {
        this.seed = seed * 7919 + 17;
    }

    public static void main(String[] args) {
        for (int run = 0; run < RUNS; run++) {
            new ModelTest(run).run(run);
        }
        Due.finish();
    }

    /** The same numbers on each run of the test. */
    private int pick(int bound) {
        seed = seed * 6364136223846793005L + 1442695040888963407L;
        return (int) ((seed >>> 33) % bound);
    }

    private void run(int run) {
        int calls = 0;
        while (calls < CALLS) {
            int before = calls;
            if (pick(6) == 0) {
                calls += writeText(run, CALLS - calls);
            } else {
                oneCall(run, pick(40), square(), square(), small());
                calls++;
            }
            if (calls / 16 > before / 16 && calls < CALLS) {
                compare(run, "digest()", game::digest, model::digest);
                calls++;
            }
        }
    }

    private int square() {
        return pick(60) == 0 ? pick(80) - 20 : pick(36);
    }

    private int small() {
        return pick(40) == 0 ? pick(20) - 5 : pick(10);
    }

    private int slot() {
        return pick(20) == 0 ? pick(9) - 3 : pick(2);
    }

    private void oneCall(int run, int which, int a, int b, int c) {
        String at = which + " of " + a + ", " + b + ", " + c;
        int slot = slot();
        switch (which) {
            case 0 -> compare(run, "crowd " + at, () -> game.crowd(a, c), () -> model.crowd(a, c));
            case 1 -> compare(run, "tear " + at, () -> game.tear(a), () -> model.tear(a));
            case 2, 3 -> compare(run, "hour " + at, () -> game.hour(c + a % 3), () -> model.hour(c + a % 3));
            case 4 -> compare(run, "append " + at, () -> game.append(a * 3 + 28), () -> model.append(a * 3 + 28));
            case 5 -> compare(run, "clearBuffer " + at, game::clearBuffer, model::clearBuffer);
            case 6 -> compare(run, "keep " + slot, () -> game.keep(slot), () -> model.keep(slot));
            case 7 -> compare(run, "goBack " + slot, () -> game.goBack(slot), () -> model.goBack(slot));
            case 8, 9, 10 -> compare(run, "undo " + at, game::undo, model::undo);
            case 11 -> compare(run, "rest " + at, game::rest, model::rest);
            case 12 -> compare(run, "load " + at, game::load, model::load);
            case 13, 14 -> compare(run, "squareOf " + at, () -> game.squareOf(a, c), () -> model.squareOf(a, c));
            case 15 -> compare(run, "playerOf " + at, () -> game.playerOf(slot, c), () -> model.playerOf(slot, c));
            case 16 -> compare(run, "count " + at, () -> game.count(c), () -> model.count(c));
            case 17 -> compare(run, "whyNot " + at, () -> game.whyNot(a), () -> model.whyNot(a));
            case 18 -> compare(run, "ifRaised " + at, () -> game.ifRaised(a), () -> model.ifRaised(a));
            case 19 -> compare(run, "bestSquare " + at, game::bestSquare, model::bestSquare);
            case 20 -> compare(run, "needed " + at, () -> game.needed(a, b), () -> model.needed(a, b));
            case 21 -> compare(run, "needed in a row " + at, () -> game.needed(a, a / 6 * 6 + c % 6),
                    () -> model.needed(a, a / 6 * 6 + c % 6));
            case 22 -> compare(run, "needed in a column " + at, () -> game.needed(a, a % 6 + c % 6 * 6),
                    () -> model.needed(a, a % 6 + c % 6 * 6));
            case 23 -> compare(run, "darkestHour " + at, game::darkestHour, model::darkestHour);
            case 24 -> compare(run, "darkShare " + at, () -> Double.doubleToLongBits(game.darkShare()),
                    () -> Double.doubleToLongBits(model.darkShare()));
            case 25 -> compare(run, "firstError " + at, game::firstError, model::firstError);
            default -> compare(run, "raise " + at, () -> game.raise(a), () -> model.raise(a));
        }
    }

    /** A text, mostly a right one, appended, looked at and loaded; the number of calls, at most so many. */
    private int writeText(int run, int most) {
        StringBuilder text = new StringBuilder();
        int entries = 1 + pick(pick(4) == 0 ? 14 : 4);
        for (int entry = 0; entry < entries; entry++) {
            text.append(entry == 0 ? "" : ";").append((char) ('a' + pick(6))).append((char) ('1' + pick(6)));
            text.append("+-=+-".charAt(pick(5))).append((char) ('1' + pick(9)));
        }
        if (pick(4) == 0) {
            text.setCharAt(pick(text.length()), "a1+-=;0979gf!~".charAt(pick(14)));
        }
        if (pick(12) == 0) {
            text.append(";");
        }
        int calls = 0;
        for (int i = 0; i < text.length() && calls < most; i++, calls++) {
            int code = text.charAt(i);
            compare(run, "append " + code, () -> game.append(code), () -> model.append(code));
        }
        if (calls + 3 <= most) {
            compare(run, "firstError of " + text, game::firstError, model::firstError);
            compare(run, "load of " + text, game::load, model::load);
            compare(run, "firstError behind load of " + text, game::firstError, model::firstError);
            calls += 3;
        }
        if (calls < most && pick(3) == 0) {
            compare(run, "clearBuffer", game::clearBuffer, model::clearBuffer);
            calls++;
        }
        return calls;
    }

    private void compare(int run, String call, Call got, Call due) {
        Due.same("run " + run + ": " + call, told(got), told(due));
    }

    private static Object told(Call call) {
        try {
            return call.answer();
        } catch (IndexOutOfBoundsException e) {
            return e.getClass() == IndexOutOfBoundsException.class ? KINDS[0] : e.toString();
        } catch (IllegalArgumentException e) {
            return e.getClass() == IllegalArgumentException.class ? KINDS[1] : e.toString();
        } catch (IllegalStateException e) {
            return e.getClass() == IllegalStateException.class ? KINDS[2] : e.toString();
        }
    }
}
