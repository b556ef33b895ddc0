/** Promises 7 to 13: append, clearBuffer, firstError, load, keep, goBack, undo. */
public final class TextsTest {
    public static void main(String[] args) {
        appendAppends();
        clearClears();
        errorsByPlace();
        errorsOfEachPlace();
        loadLoads();
        loadRefuses();
        longTexts();
        snapshots();
        goBackIsUndoable();
        eachNumberIsRestored();
        undoes();
        atMostSixAreSaved();
        Due.finish();
    }

    private static void appendAppends() {
        TowerShades game = new TowerShades();
        Due.argument("append(32)", () -> game.append(32));
        Due.argument("append(127)", () -> game.append(127));
        Due.argument("append(-1)", () -> game.append(-1));
        Due.same("append(33)", game.append(33), 1);
        Due.same("append(126)", game.append(126), 2);
        for (int length = 3; length <= 60; length++) {
            Due.same("append at " + length, game.append('a'), length);
        }
        Due.state("append to a full buffer", () -> game.append('a'));
        Due.argument("append(32) to a full buffer: the code first", () -> game.append(32));
        Due.same("length", game.clearBuffer(), 60);
        Due.same("append is not undoable", game.count(9), 0);
    }

    private static void clearClears() {
        TowerShades game = new TowerShades();
        Due.write(game, "a1+");
        Due.same("clearBuffer()", game.clearBuffer(), 3);
        Due.same("clearBuffer() again", game.clearBuffer(), 0);
        Due.same("not undoable", game.count(9), 0);
        Due.same("append from the start", game.append('b'), 1);
    }

    private static int errorOf(String text) {
        TowerShades game = new TowerShades();
        Due.write(game, text);
        int error = game.firstError();
        Due.same("the buffer stays behind firstError", game.clearBuffer(), text.length());
        Due.same("firstError is not undoable", game.count(9), 0);
        return error;
    }

    private static void errorsByPlace() {
        String[] texts = {"", "a", "a1", "a1+", "a1+1", "a1+1;", "f6-9;c3=0", "g", "`", "A", "a0", "a7", "a1*", "a1+0",
            "a1-0", "a1=0", "a1=:", "a1+:", "a1+99", "a1+1;;", "a1+1,", ";", "1a", "aa", "a1;", "a1+1;a1+1;x", "xx",
            "b2=5;b2=/"};
        int[] due = {0, 1, 2, 3, 4, 5, 9, 0, 0, 0, 1, 1, 2, 3, 3, 4, 3, 3, 4, 5, 4, 0, 0, 1, 2, 10, 0, 8};
        for (int i = 0; i < texts.length; i++) {
            Due.same("firstError of " + texts[i], errorOf(texts[i]), due[i]);
        }
    }

    private static void errorsOfEachPlace() {
        String[] before = {"", "c", "c4", "c4+", "c4-", "c4=", "c4+7", "c4=7", "c4+7;", "c4=0;d"};
        String[] fit = {"abcdef", "123456", "+-=", "123456789", "123456789", "0123456789", ";", ";", "abcdef", "123456"};
        for (int i = 0; i < before.length; i++) {
            for (char code = 33; code <= 126; code++) {
                int length = before[i].length();
                int due = fit[i].indexOf(code) >= 0 ? length + 1 : length;
                Due.same("firstError of " + before[i] + code, errorOf(before[i] + code), due);
            }
        }
    }

    private static void loadLoads() {
        TowerShades game = new TowerShades();
        Due.write(game, "a1+3;f6-9;b2=0;a1=9;f6+1;c3-5");
        Due.same("load()", game.load(), 3);
        Due.same("a1", game.squareOf(0, 0), 3);
        Due.same("a1's owner", game.squareOf(0, 1), 0);
        Due.same("a1's crowd", game.squareOf(0, 2), 9);
        Due.same("f6, the later one", game.squareOf(35, 0), 1);
        Due.same("f6's owner", game.squareOf(35, 1), 0);
        Due.same("b2's crowd", game.squareOf(7, 2), 0);
        Due.same("b2 has no tower", game.squareOf(7, 1), TowerShades.NONE);
        Due.same("c3's owner", game.squareOf(14, 1), 1);
        Due.same("the buffer is cleared", game.clearBuffer(), 0);
        Due.same("no turn", game.count(4), 0);
        Due.write(game, "a1-2");
        Due.same("load() onto it", game.load(), 3);
        Due.same("a1's crowd stays", game.squareOf(0, 2), 9);
        Due.same("a1's owner then", game.squareOf(0, 1), 1);
        Due.same("c3 stays", game.squareOf(14, 0), 5);
        Due.same("saved", game.count(9), 2);
        Due.write(game, "xyz");
        Due.same("undo", game.undo(), 1);
        Due.same("a1's owner before", game.squareOf(0, 1), 0);
        Due.same("undo leaves the buffer", game.clearBuffer(), 3);
    }

    private static void loadRefuses() {
        String[] texts = {"", "a", "a1", "a1+", "a1+1;", "a1+1;b", "a1+0", "g1+1", "a1+1x", "a1+1;b7+1", "a1+1;;a2+1"};
        for (String text : texts) {
            TowerShades game = new TowerShades();
            Due.write(game, text);
            Due.argument("load of " + text, () -> game.load());
            Due.same("no towers of " + text, game.count(6), 0);
            Due.same("nothing saved of " + text, game.count(9), 0);
            Due.same("the buffer stays: " + text, game.clearBuffer(), text.length());
        }
    }

    private static void longTexts() {
        String longest = "a1+1;a2-2;a3+3;a4-4;a5+5;a6-6;b1+7;b2-8;b3+9;f1=0;f2=1;f3=2";
        TowerShades game = new TowerShades();
        Due.write(game, longest);
        Due.same("firstError of 59", game.firstError(), 59);
        Due.same("length of 60", game.append(';'), 60);
        Due.same("firstError of 60: a longer text begins so", game.firstError(), 60);
        Due.argument("load of 60", () -> game.load());
        game.clearBuffer();
        Due.write(game, longest);
        Due.same("load of 59", game.load(), 9);
        Due.same("f1", game.squareOf(30, 2), 0);
        Due.same("f3", game.squareOf(32, 2), 2);
        Due.same("b3", game.squareOf(8, 0), 9);
    }

    private static void snapshots() {
        TowerShades game = Due.game("a1+3;b1-2");
        game.raise(35);
        game.raise(0);
        Due.same("keep(0)", game.keep(0), 3);
        Due.same("keep saves no state", game.count(9), 3);
        game.raise(34);
        game.crowd(7, 8);
        Due.same("keep(1)", game.keep(1), 4);
        game.tear(0);
        Due.write(game, "a1");
        Due.same("goBack(0)", game.goBack(0), 3);
        int[] counts = {1, 0, 3, 1, 1, 0, 3, 36, 1, 6};
        for (int what = 0; what < counts.length; what++) {
            Due.same("count(" + what + ") behind goBack", game.count(what), counts[what]);
        }
        Due.same("score of 0 behind goBack", game.playerOf(0, 0), 2);
        Due.same("score of 1 behind goBack", game.playerOf(1, 0), 1);
        Due.same("a1 behind goBack", game.squareOf(0, 0), 3);
        Due.same("the buffer stays", game.clearBuffer(), 2);
        Due.same("goBack(1)", game.goBack(1), 4);
        Due.same("b2's crowd", game.squareOf(7, 2), 8);
        Due.same("goBack(0) again: it stayed", game.goBack(0), 3);
        Due.same("undo of goBack", game.undo(), 5);
        Due.same("towers", game.count(6), 4);
        Due.same("b2's crowd again", game.squareOf(7, 2), 8);
        game.keep(0);
        game.tear(35);
        Due.same("saved", game.count(9), 6);
        Due.same("keep in place of the one in the slot", game.goBack(0), 4);
        wrongSlots();
    }

    private static void wrongSlots() {
        TowerShades game = new TowerShades();
        Due.argument("keep(2)", () -> game.keep(2));
        Due.argument("keep(-1)", () -> game.keep(-1));
        Due.argument("goBack(2)", () -> game.goBack(2));
        Due.argument("goBack(-1)", () -> game.goBack(-1));
        Due.state("goBack(1)", () -> game.goBack(1));
        game.keep(0);
        Due.state("goBack(1): only 0 is kept", () -> game.goBack(1));
        Due.same("nothing saved", game.count(9), 0);
        game.raise(0);
        game.undo();
        Due.same("undo leaves the slots", game.goBack(0), 0);
    }

    private static void goBackIsUndoable() {
        TowerShades game = Due.game("b2+3");
        game.keep(0);
        game.raise(35);
        Due.same("goBack(0)", game.goBack(0), 1);
        Due.same("saved: load, raise, goBack", game.count(9), 3);
        Due.same("undo of goBack", game.undo(), 2);
        Due.same("f6", game.squareOf(35, 0), 1);
        Due.same("undo of raise", game.undo(), 1);
        Due.same("f6", game.squareOf(35, 0), 0);
        Due.same("undo of load", game.undo(), 0);
        Due.same("towers", game.count(6), 0);
    }

    /** The hour, the player, the turns and the refused ones are all different numbers. */
    private static void eachNumberIsRestored() {
        TowerShades game = new TowerShades();
        game.rest();
        game.raise(3);
        game.rest();
        game.raise(3);
        game.raise(3);
        game.raise(4);
        game.raise(4);
        game.hour(9);
        game.keep(0);
        int[] due = {9, 3, 1, 1, 5, 1, 2, 36, 2};
        for (int round = 0; round < 2; round++) {
            game.hour(5);
            game.rest();
            game.raise(4);
            game.raise(4);
            if (round == 0) {
                game.undo();
                game.undo();
                game.undo();
                game.undo();
            } else {
                game.goBack(0);
            }
            for (int what = 0; what < due.length; what++) {
                Due.same("count(" + what + ") restored in the round " + round, game.count(what), due[what]);
            }
        }
    }

    private static void undoes() {
        TowerShades game = new TowerShades();
        game.raise(0);
        game.raise(0);
        game.rest();
        game.keep(1);
        Due.same("undo of rest", game.undo(), 2);
        Due.same("turns", game.count(4), 1);
        Due.same("refused", game.count(8), 1);
        Due.same("undo of the refused raise", game.undo(), 1);
        Due.same("refused then", game.count(8), 0);
        Due.same("player still", game.count(3), 1);
        Due.same("undo of raise", game.undo(), 0);
        Due.same("score", game.playerOf(0, 0), 0);
        Due.same("hour", game.count(0), 0);
        Due.same("player", game.count(3), 0);
        Due.same("owner", game.squareOf(0, 1), TowerShades.NONE);
        Due.state("undo of nothing", () -> game.undo());
        Due.same("the slot is still there", game.goBack(1), 1);
    }

    private static void atMostSixAreSaved() {
        TowerShades game = new TowerShades();
        for (int crowd = 0; crowd <= 9; crowd++) {
            game.crowd(3, crowd);
            Due.same("saved behind " + crowd, game.count(9), Math.min(crowd + 1, 6));
        }
        for (int left = 5; left >= 0; left--) {
            Due.same("undo", game.undo(), left);
            Due.same("crowd with " + left + " left", game.squareOf(3, 2), left + 3);
        }
        Due.state("the older ones were dropped", () -> game.undo());
        game.crowd(3, 7);
        Due.same("undo behind the ring's round", game.undo(), 0);
        Due.same("crowd", game.squareOf(3, 2), 3);
    }
}
