import java.util.function.Consumer;

/** "Snapshots, undo", "Exceptions" and the promises 11 to 13 (keep, goBack, undo), clause by clause. */
final class StateEdges {
    private static final int[] NO_SLOTS = {-1, 2, Integer.MIN_VALUE, Integer.MAX_VALUE};

    private StateEdges() {
    }

    static void list() {
        snapshotsAndUndo();
        exceptions();
        promises11To13();
    }

    private static void snapshotsAndUndo() {
        String heading = "Snapshots, undo";
        EdgesTest.edge(heading, "There are two slots", StateEdges::twoSlots);
        EdgesTest.edge(heading, "a snapshot is all but", StateEdges::snapshotsHoldAll);
        EdgesTest.edge(heading, "but the buffer, the slots and the saved states", StateEdges::snapshotsHoldNoMore);
        EdgesTest.edge(heading, "Each method that is marked \"undoable\"", StateEdges::undoableOnesSaveOneState);
        EdgesTest.edge(heading, "that is marked \"undoable\"", StateEdges::othersSaveNoState);
        EdgesTest.edge(heading, "does not throw an exception", StateEdges::throwingSavesNoState);
        EdgesTest.edge(heading, "saves the state from before it (also if it changes nothing", StateEdges::nothingChanged);
        EdgesTest.edge(heading, "or is refused)", StateEdges::refusedSavesAState);
        EdgesTest.edge(heading, "all, also what is counted so far", StateEdges::countsAreRestored);
        EdgesTest.edge(heading, "far, but the buffer, the slots and the saved states", StateEdges::undoLeavesTheRest);
        EdgesTest.edge(heading, "At most 6 states are saved", StateEdges::atMost6);
        EdgesTest.edge(heading, "the oldest one is dropped first", StateEdges::oldestIsDropped);
    }

    private static void exceptions() {
        String heading = "Exceptions";
        EdgesTest.edge(heading, "A call that throws an exception changes nothing", StateEdges::throwingChangesNothing);
        EdgesTest.edge(heading, "(the buffer stays as it is, too)", StateEdges::throwingLeavesTheBuffer);
        EdgesTest.edge(heading, "If several exceptions apply, the one that is named first in the throws clause is thrown",
                StateEdges::firstNamedIsThrown);
        EdgesTest.edge(heading, "`NONE = -1`", () -> Due.same("NONE", TowerShades.NONE, -1));
        EdgesTest.edge(heading, "There is nothing to return", StateEdges::noneIsReturned);
        EdgesTest.edge(heading, "---- turns", StateEdges::turnsAreTurns);
        EdgesTest.edge(heading, "---- texts, snapshots", StateEdges::textsAreNoTurns);
    }

    private static void promises11To13() {
        EdgesTest.edge("Promise 11", "Takes a snapshot", StateEdges::keepChangesNothing);
        EdgesTest.edge("Promise 11", "in place of the one in the slot", StateEdges::keepReplaces);
        EdgesTest.edge("Promise 11", "`slot`: 0 or 1", StateEdges::keepInBoth);
        EdgesTest.edge("Promise 11", "Returns how many towers there are", StateEdges::keepReturnsTheTowers);
        EdgesTest.edge("Promise 11", "Throws `IllegalArgumentException` if slot is out of range", StateEdges::noSlotToKeep);
        EdgesTest.edge("Promise 12", "Goes back to a snapshot", StateEdges::goBackGoesBack);
        EdgesTest.edge("Promise 12", "which stays", StateEdges::snapshotStays);
        EdgesTest.edge("Promise 12", "Undoable", StateEdges::goBackIsUndoable);
        EdgesTest.edge("Promise 12", "`slot`: 0 or 1", StateEdges::goBackToBoth);
        EdgesTest.edge("Promise 12", "Returns how many towers there are then", StateEdges::goBackReturnsTheTowers);
        EdgesTest.edge("Promise 12", "Throws `IllegalArgumentException` if slot is out of range",
                StateEdges::noSlotToGoBackTo);
        EdgesTest.edge("Promise 12", "Throws `IllegalStateException` if there is no snapshot in it",
                StateEdges::emptySlot);
        EdgesTest.edge("Promise 13", "Restores the latest saved state", StateEdges::undoRestoresTheLatest);
        EdgesTest.edge("Promise 13", "and drops it", StateEdges::undoDrops);
        EdgesTest.edge("Promise 13", "Returns how many saved states are left", StateEdges::undoReturnsHowManyAreLeft);
        EdgesTest.edge("Promise 13", "Throws `IllegalStateException` if there is none", StateEdges::nothingToUndo);
    }

    private static void twoSlots() {
        TowerShades game = Due.game("a1+1");
        game.keep(0);
        game.raise(6);
        game.keep(1);
        game.raise(12);
        Due.same("goBack(0)", game.goBack(0), 1);
        Due.same("goBack(1)", game.goBack(1), 2);
        Due.argument("goBack(2)", () -> game.goBack(2));
    }

    /** Behind both, what is told of the game is the same again, number by number. */
    private static void snapshotsHoldAll() {
        TowerShades game = Due.rich();
        game.keep(0);
        int[] due = allOf(game);
        scramble(game);
        game.goBack(0);
        sameNumbers(allOf(game), due);
    }

    /** Changes the field, the scores, the hour, the turns, the player and what was refused. */
    private static void scramble(TowerShades game) {
        game.hour(4);
        game.raise(30);
        game.raise(30);
        game.raise(24);
        game.rest();
        game.crowd(9, 0);
        game.tear(4);
        game.clearBuffer();
        Due.write(game, "d5-9;d5=9");
        game.load();
    }

    /** All numbers that a snapshot holds. */
    private static int[] allOf(TowerShades game) {
        int[] all = new int[9 + 2 + 3 * 36];
        int next = 0;
        for (int what = 0; what <= 8; what++) {
            all[next++] = game.count(what);
        }
        for (int player = 0; player < 2; player++) {
            all[next++] = game.playerOf(player, 0);
        }
        for (int square = 0; square < 36; square++) {
            for (int what = 0; what < 3; what++) {
                all[next++] = game.squareOf(square, what);
            }
        }
        return all;
    }

    private static void sameNumbers(int[] got, int[] due) {
        for (int i = 0; i < due.length; i++) {
            Due.same("the number " + i, got[i], due[i]);
        }
    }

    private static void snapshotsHoldNoMore() {
        TowerShades game = new TowerShades();
        Due.write(game, "a1");
        game.keep(0);
        game.rest();
        game.keep(1);
        Due.write(game, "+1");
        game.goBack(0);
        Due.same("the buffer behind goBack", game.firstError(), 4);
        Due.same("saved behind goBack", game.count(9), 2);
        Due.same("the slot 1 behind goBack to 0", game.goBack(1), 0);
        Due.same("turns in the slot 1", game.count(4), 1);
    }

    private static void undoableOnesSaveOneState() {
        savesOne("raise", game -> game.raise(1));
        savesOne("rest", TowerShades::rest);
        savesOne("crowd", game -> game.crowd(0, 9));
        savesOne("tear", game -> game.tear(5));
        savesOne("hour", game -> game.hour(7));
        savesOne("load", TowerShades::load);
        savesOne("goBack", game -> game.goBack(0));
    }

    /** Two saved states, a snapshot in the slot 0, a text in the buffer. */
    private static TowerShades ready() {
        TowerShades game = Due.game("a6+5;b2-3");
        game.raise(5);
        game.keep(0);
        Due.write(game, "c3=5");
        return game;
    }

    private static void savesOne(String call, Consumer<TowerShades> run) {
        TowerShades game = ready();
        int before = game.count(9);
        run.accept(game);
        Due.same("saved by " + call, game.count(9), before + 1);
    }

    private static void othersSaveNoState() {
        savesNone("append", game -> game.append(33));
        savesNone("clearBuffer", TowerShades::clearBuffer);
        savesNone("firstError", TowerShades::firstError);
        savesNone("keep", game -> game.keep(1));
        savesNone("squareOf", game -> game.squareOf(5, 6));
        savesNone("playerOf", game -> game.playerOf(0, 5));
        savesNone("count", game -> game.count(5));
        savesNone("whyNot", game -> game.whyNot(0));
        savesNone("ifRaised", game -> game.ifRaised(0));
        savesNone("bestSquare", TowerShades::bestSquare);
        savesNone("needed", game -> game.needed(5, 0));
        savesNone("darkestHour", TowerShades::darkestHour);
        savesNone("darkShare", TowerShades::darkShare);
        savesNone("digest", TowerShades::digest);
        TowerShades game = ready();
        game.undo();
        Due.same("saved behind undo", game.count(9), 1);
    }

    private static void savesNone(String call, Consumer<TowerShades> run) {
        TowerShades game = ready();
        run.accept(game);
        Due.same("saved behind " + call, game.count(9), 2);
    }

    private static void throwingSavesNoState() {
        TowerShades game = ready();
        Due.index("raise(36)", () -> game.raise(36));
        Due.index("crowd(36, 1)", () -> game.crowd(36, 1));
        Due.argument("crowd(0, 10)", () -> game.crowd(0, 10));
        Due.index("tear(36)", () -> game.tear(36));
        Due.argument("hour(12)", () -> game.hour(12));
        Due.argument("goBack(2)", () -> game.goBack(2));
        Due.state("goBack(1)", () -> game.goBack(1));
        game.append(';');
        Due.argument("load()", game::load);
        Due.same("saved", game.count(9), 2);
    }

    private static void nothingChanged() {
        savesOne("a crowd that was there", game -> game.crowd(0, 1));
        savesOne("a tear of none", game -> game.tear(0));
        savesOne("the hour that it was", game -> game.hour(1));
        TowerShades back = new TowerShades();
        back.keep(1);
        back.goBack(1);
        Due.same("saved by a goBack to what it was", back.count(9), 1);
        Due.same("saved by a load of what was there", Due.game("a1=1").count(9), 1);
    }

    private static void refusedSavesAState() {
        TowerShades game = ready();
        Due.same("raise of the other one's", game.raise(5), 1);
        Due.same("raise of the other one's again", game.raise(5), 1);
        Due.same("saved", game.count(9), 4);
        Due.same("refused", game.count(8), 2);
        game.undo();
        Due.same("refused behind undo", game.count(8), 1);
    }

    private static void countsAreRestored() {
        TowerShades game = Due.game("a6+5;a6=4;b2-3;b2=9");
        game.raise(5);
        game.raise(5);
        int[] due = allOf(game);
        game.raise(5);
        game.rest();
        game.undo();
        game.undo();
        sameNumbers(allOf(game), due);
        Due.same("turns", game.count(4), 1);
        Due.same("refused", game.count(8), 1);
        Due.same("the score of 0", game.playerOf(0, 0), 4);
        Due.same("the score of 1", game.playerOf(1, 0), 9);
    }

    private static void undoLeavesTheRest() {
        TowerShades game = new TowerShades();
        game.raise(0);
        Due.write(game, "b1-");
        game.keep(1);
        Due.same("undo()", game.undo(), 0);
        Due.same("the slot filled since", game.goBack(1), 1);
        Due.same("the buffer written since", game.clearBuffer(), 3);
        game.raise(0);
        Due.same("saved behind goBack and a raise", game.count(9), 2);
        Due.same("undo()", game.undo(), 1);
        Due.same("the buffer cleared since", game.firstError(), 0);
    }

    private static void atMost6() {
        TowerShades game = new TowerShades();
        for (int call = 1; call <= 14; call++) {
            game.hour(call % 12);
            Due.same("saved behind " + call + " calls", game.count(9), Math.min(call, 6));
        }
        for (int left = 5; left >= 0; left--) {
            Due.same("undo()", game.undo(), left);
        }
        Due.state("the seventh undo", game::undo);
    }

    private static void oldestIsDropped() {
        for (int calls = 7; calls <= 19; calls++) {
            TowerShades game = new TowerShades();
            for (int call = 0; call < calls; call++) {
                game.rest();
            }
            for (int back = 1; back <= 6; back++) {
                game.undo();
                Due.same("turns behind " + calls + " turns and " + back + " undos", game.count(4), calls - back);
            }
            Due.state("undo of a dropped one", game::undo);
        }
    }

    /** Twice the same game: one goes on, the other one throws first; all that they hold must be alike. */
    private static void throwingChangesNothing() {
        throwsAndStays("raise(36)", game -> game.raise(36));
        throwsAndStays("raise(-1)", game -> game.raise(-1));
        throwsAndStays("crowd(36, 3)", game -> game.crowd(36, 3));
        throwsAndStays("crowd(5, 10)", game -> game.crowd(5, 10));
        throwsAndStays("crowd(5, -1)", game -> game.crowd(5, -1));
        throwsAndStays("tear(36)", game -> game.tear(36));
        throwsAndStays("hour(12)", game -> game.hour(12));
        throwsAndStays("hour(-1)", game -> game.hour(-1));
        throwsAndStays("append(32)", game -> game.append(32));
        throwsAndStays("append(127)", game -> game.append(127));
        throwsAndStays("load()", TowerShades::load);
        throwsAndStays("keep(2)", game -> game.keep(2));
        throwsAndStays("keep(-1)", game -> game.keep(-1));
        throwsAndStays("goBack(2)", game -> game.goBack(2));
        throwsAndStays("squareOf(36, 0)", game -> game.squareOf(36, 0));
        throwsAndStays("squareOf(0, 8)", game -> game.squareOf(0, 8));
        throwsAndStays("playerOf(2, 0)", game -> game.playerOf(2, 0));
        throwsAndStays("playerOf(0, 6)", game -> game.playerOf(0, 6));
        throwsAndStays("count(10)", game -> game.count(10));
        throwsAndStays("whyNot(36)", game -> game.whyNot(36));
        throwsAndStays("ifRaised(36)", game -> game.ifRaised(36));
        throwsAndStays("needed(36, 0)", game -> game.needed(36, 0));
        throwsAndStays("needed(0, 36)", game -> game.needed(0, 36));
        TowerShades noSlots = Due.noSlots();
        Due.state("goBack(1)", () -> noSlots.goBack(1));
        Due.alike("all behind goBack(1)", noSlots, Due.noSlots());
        TowerShades noSaved = new TowerShades();
        Due.state("undo()", noSaved::undo);
        Due.alike("all behind undo()", noSaved, new TowerShades());
    }

    private static void throwsAndStays(String call, Consumer<TowerShades> run) {
        TowerShades game = Due.rich();
        int thrown = 0;
        try {
            run.accept(game);
        } catch (IndexOutOfBoundsException | IllegalArgumentException e) {
            thrown = 1;
        }
        Due.same(call + " throws", thrown, 1);
        Due.alike("all behind " + call, game, Due.rich());
    }

    private static void throwingLeavesTheBuffer() {
        String[] texts = {"a1+1;", "a1+1;b", "zz", "a1+0"};
        for (String text : texts) {
            TowerShades game = new TowerShades();
            Due.write(game, text);
            Due.argument("load of " + text, game::load);
            Due.argument("append(127) to " + text, () -> game.append(127));
            Due.state("goBack(0)", () -> game.goBack(0));
            TowerShades twin = new TowerShades();
            Due.write(twin, text);
            Due.alike("all of " + text, game, twin);
        }
        TowerShades full = full();
        Due.state("append to a full buffer", () -> full.append('b'));
        Due.argument("load of a full buffer", full::load);
        Due.alike("all of a full buffer", full, full());
    }

    private static TowerShades full() {
        TowerShades game = new TowerShades();
        for (int length = 0; length < 60; length++) {
            game.append(33 + length);
        }
        return game;
    }

    private static void firstNamedIsThrown() {
        TowerShades game = full();
        int[] far = {-1, 100, Integer.MIN_VALUE, Integer.MAX_VALUE};
        for (int wrong : far) {
            Due.index("crowd(" + wrong + ", " + wrong + ")", () -> game.crowd(wrong, wrong));
            Due.index("squareOf(" + wrong + ", " + wrong + ")", () -> game.squareOf(wrong, wrong));
            Due.index("playerOf(" + wrong + ", " + wrong + ")", () -> game.playerOf(wrong, wrong));
            Due.argument("goBack(" + wrong + "), with no snapshot", () -> game.goBack(wrong));
        }
        Due.index("crowd(36, 10)", () -> game.crowd(36, 10));
        Due.index("squareOf(36, 8)", () -> game.squareOf(36, 8));
        Due.index("playerOf(2, 6)", () -> game.playerOf(2, 6));
        Due.argument("append(32) to a full buffer", () -> game.append(32));
        Due.argument("append(127) to a full buffer", () -> game.append(127));
    }

    private static void noneIsReturned() {
        TowerShades game = Due.game("a6+9;a5+9");
        Due.same("the owner of no tower", game.squareOf(0, 1), TowerShades.NONE);
        Due.same("needed against the sun", game.needed(0, 5), TowerShades.NONE);
        Due.same("needed above 9", game.needed(5, 4), TowerShades.NONE);
    }

    private static void turnsAreTurns() {
        TowerShades game = new TowerShades();
        game.raise(0);
        Due.same("turns behind raise", game.count(4), 1);
        game.rest();
        Due.same("turns behind rest", game.count(4), 2);
    }

    private static void textsAreNoTurns() {
        TowerShades game = new TowerShades();
        Due.write(game, "a1+1");
        game.firstError();
        game.load();
        game.keep(0);
        game.goBack(0);
        game.append('a');
        game.clearBuffer();
        game.undo();
        Due.same("turns", game.count(4), 0);
        Due.same("the player", game.count(3), 0);
        Due.same("the hour", game.count(0), 0);
        Due.same("the score of 0", game.playerOf(0, 0), 0);
    }

    private static void keepChangesNothing() {
        TowerShades game = Due.noSlots();
        int[] before = allOf(game);
        game.keep(0);
        sameNumbers(allOf(game), before);
        Due.same("saved", game.count(9), 2);
        Due.same("the buffer", game.firstError(), 2);
    }

    private static void keepReplaces() {
        TowerShades game = new TowerShades();
        for (int slot = 0; slot < 2; slot++) {
            int kept = slot;
            game.rest();
            game.keep(kept);
            game.raise(12 * slot + 6);
            game.keep(kept);
            int turns = game.count(4);
            game.rest();
            Due.same("towers in the slot " + slot, game.goBack(kept), slot + 1);
            Due.same("turns in the slot " + slot, game.count(4), turns);
        }
    }

    private static void keepInBoth() {
        for (int slot = 0; slot < 2; slot++) {
            int other = 1 - slot;
            TowerShades game = Due.game("a1+1;b1-1");
            Due.same("keep(" + slot + ")", game.keep(slot), 2);
            Due.state("goBack(" + other + ")", () -> game.goBack(other));
            Due.same("goBack(" + slot + ")", game.goBack(slot), 2);
        }
    }

    private static void keepReturnsTheTowers() {
        TowerShades game = new TowerShades();
        Due.same("keep(0) without towers", game.keep(0), 0);
        for (char row = 'a'; row <= 'f'; row++) {
            Due.write(game, row + "1+9;" + row + "2-9;" + row + "3+9;" + row + "4-9;" + row + "5+9;" + row + "6-9");
            game.load();
        }
        Due.same("keep(1) with 36", game.keep(1), 36);
        game.tear(35);
        Due.same("keep(1) with 35", game.keep(1), 35);
    }

    private static void noSlotToKeep() {
        TowerShades game = new TowerShades();
        for (int slot : NO_SLOTS) {
            Due.argument("keep(" + slot + ")", () -> game.keep(slot));
        }
    }

    private static void goBackGoesBack() {
        TowerShades game = Due.game("a1+1;a1=3;b1-1");
        game.rest();
        game.keep(0);
        game.raise(6);
        game.tear(0);
        game.crowd(0, 0);
        game.goBack(0);
        Due.same("a1's height", game.squareOf(0, 0), 1);
        Due.same("a1's crowd", game.squareOf(0, 2), 3);
        Due.same("b1's height", game.squareOf(6, 0), 1);
        Due.same("turns", game.count(4), 1);
        Due.same("the player", game.count(3), 1);
        Due.same("the hour", game.count(0), 1);
        Due.same("the score of 0", game.playerOf(0, 0), 3);
        Due.same("the score of 1", game.playerOf(1, 0), 1);
    }

    private static void snapshotStays() {
        TowerShades game = Due.game("a1+1");
        game.keep(1);
        for (int time = 0; time < 3; time++) {
            game.raise(0);
            game.crowd(7, time);
            game.tear(0);
            Due.same("goBack(1) the time " + time, game.goBack(1), 1);
            Due.same("the height", game.squareOf(0, 0), 1);
            Due.same("the crowd", game.squareOf(7, 2), 1);
            Due.same("turns", game.count(4), 0);
        }
    }

    private static void goBackIsUndoable() {
        TowerShades game = Due.noSlots();
        TowerShades twin = Due.noSlots();
        game.keep(0);
        twin.keep(0);
        game.rest();
        twin.rest();
        game.goBack(0);
        Due.same("saved", game.count(9), 4);
        Due.same("undo()", game.undo(), 3);
        Due.alike("all behind undo", game, twin);
    }

    private static void goBackToBoth() {
        TowerShades game = Due.game("a1+1");
        game.keep(1);
        game.raise(6);
        game.keep(0);
        game.tear(0);
        game.tear(6);
        Due.same("goBack(0)", game.goBack(0), 2);
        Due.same("turns in the slot 0", game.count(4), 1);
        Due.same("goBack(1)", game.goBack(1), 1);
        Due.same("turns in the slot 1", game.count(4), 0);
    }

    private static void goBackReturnsTheTowers() {
        TowerShades game = new TowerShades();
        game.keep(0);
        game.raise(0);
        game.raise(6);
        game.keep(1);
        Due.same("goBack(0) to none", game.goBack(0), 0);
        Due.same("goBack(1) to one of each player", game.goBack(1), 2);
        Due.same("towers", game.count(6), 2);
    }

    private static void noSlotToGoBackTo() {
        TowerShades game = Due.rich();
        for (int slot : NO_SLOTS) {
            Due.argument("goBack(" + slot + ")", () -> game.goBack(slot));
        }
    }

    private static void emptySlot() {
        TowerShades game = new TowerShades();
        Due.state("goBack(0)", () -> game.goBack(0));
        Due.state("goBack(1)", () -> game.goBack(1));
        game.keep(1);
        Due.state("goBack(0): 1 alone is filled", () -> game.goBack(0));
        Due.same("goBack(1)", game.goBack(1), 0);
    }

    private static void undoRestoresTheLatest() {
        TowerShades game = Due.noSlots();
        game.crowd(7, 5);
        game.crowd(7, 6);
        game.undo();
        Due.same("the crowd behind one undo", game.squareOf(7, 2), 5);
        game.undo();
        Due.alike("all behind two", game, Due.noSlots());
    }

    private static void undoDrops() {
        TowerShades game = new TowerShades();
        game.crowd(7, 5);
        game.crowd(7, 6);
        game.undo();
        game.undo();
        Due.same("the crowd behind two undos", game.squareOf(7, 2), 1);
        Due.state("the third undo: none is saved by undo", game::undo);
        game.crowd(7, 8);
        Due.same("undo behind another call", game.undo(), 0);
        Due.same("the crowd", game.squareOf(7, 2), 1);
    }

    private static void undoReturnsHowManyAreLeft() {
        TowerShades game = new TowerShades();
        for (int call = 0; call < 9; call++) {
            game.rest();
        }
        for (int left = 5; left >= 0; left--) {
            Due.same("undo()", game.undo(), left);
            Due.same("saved", game.count(9), left);
        }
    }

    private static void nothingToUndo() {
        TowerShades game = new TowerShades();
        Due.state("undo() at first", game::undo);
        game.keep(0);
        game.append('a');
        game.clearBuffer();
        game.firstError();
        Due.state("undo() behind what is not undoable", game::undo);
        game.rest();
        game.undo();
        Due.state("undo() behind an undo", game::undo);
    }
}
