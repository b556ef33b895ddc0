/** The promises 4 to 6 (crowd, tear, hour), clause by clause. */
final class FieldEdges {
    private static final int[] NO_CROWDS = {-1, 10, Integer.MIN_VALUE, Integer.MAX_VALUE};
    private static final int[] NO_HOURS = {-1, 12, Integer.MIN_VALUE, Integer.MAX_VALUE};

    private FieldEdges() {
    }

    static void list() {
        EdgesTest.edge("Exceptions", "---- the field, no turns", FieldEdges::noTurns);
        EdgesTest.edge("Promise 4", "Changes the crowd of a square", FieldEdges::crowdChanges);
        EdgesTest.edge("Promise 4", "Undoable", FieldEdges::crowdIsUndoable);
        EdgesTest.edge("Promise 4", "`square`: 0 to 35", FieldEdges::crowdOfEachSquare);
        EdgesTest.edge("Promise 4", "`crowd`: 0 to 9", FieldEdges::eachCrowd);
        EdgesTest.edge("Promise 4", "Returns the crowd before", FieldEdges::crowdReturnsTheOneBefore);
        EdgesTest.edge("Promise 4", "Throws `IndexOutOfBoundsException` if there is no such square",
                () -> Due.noSquare("crowd", square -> new TowerShades().crowd(square, 0)));
        EdgesTest.edge("Promise 4", "Throws `IllegalArgumentException` if crowd is out of range",
                FieldEdges::noSuchCrowd);
        EdgesTest.edge("Promise 5", "Tears a tower down", FieldEdges::tearTearsDown);
        EdgesTest.edge("Promise 5", "Undoable", FieldEdges::tearIsUndoable);
        EdgesTest.edge("Promise 5", "also if there is none", FieldEdges::tearOfNoneIsUndoable);
        EdgesTest.edge("Promise 5", "`square`: 0 to 35", FieldEdges::tearOfEachSquare);
        EdgesTest.edge("Promise 5", "Returns its height", FieldEdges::tearReturnsTheHeight);
        EdgesTest.edge("Promise 5", "0 if there is none", FieldEdges::tearOfNone);
        EdgesTest.edge("Promise 5", "Throws `IndexOutOfBoundsException` if there is no such square",
                () -> Due.noSquare("tear", Due.rich()::tear));
        EdgesTest.edge("Promise 6", "Sets the hour", FieldEdges::hourIsSet);
        EdgesTest.edge("Promise 6", "Undoable", FieldEdges::hourIsUndoable);
        EdgesTest.edge("Promise 6", "`hour`: 0 to 11", FieldEdges::eachHour);
        EdgesTest.edge("Promise 6", "Returns the hour before", FieldEdges::hourReturnsTheOneBefore);
        EdgesTest.edge("Promise 6", "Throws `IllegalArgumentException` if hour is out of range", FieldEdges::noSuchHour);
    }

    private static void noTurns() {
        TowerShades game = Due.game("a1+1;b1-1");
        game.rest();
        int score0 = game.playerOf(0, 0);
        int score1 = game.playerOf(1, 0);
        game.crowd(0, 9);
        game.tear(6);
        game.hour(11);
        Due.same("turns", game.count(4), 1);
        Due.same("the player", game.count(3), 1);
        Due.same("the hour as it was set", game.count(0), 11);
        Due.same("the score of 0", game.playerOf(0, 0), score0);
        Due.same("the score of 1", game.playerOf(1, 0), score1);
    }

    private static void crowdChanges() {
        TowerShades game = Due.game("a1+4;a6+9");
        game.crowd(0, 7);
        Due.same("the crowd", game.squareOf(0, 2), 7);
        Due.same("the tower's height", game.squareOf(0, 0), 4);
        Due.same("the tower's owner", game.squareOf(0, 1), 0);
        game.crowd(2, 5);
        Due.same("the crowd of a dark square without a tower", game.squareOf(2, 2), 5);
        Due.same("its owner", game.squareOf(2, 1), TowerShades.NONE);
        Due.same("crowds together", game.count(7), 34 + 7 + 5);
    }

    private static void crowdIsUndoable() {
        TowerShades game = Due.noSlots();
        game.crowd(7, 9);
        Due.same("saved", game.count(9), 3);
        Due.same("undo()", game.undo(), 2);
        Due.alike("all behind undo", game, Due.noSlots());
        TowerShades same = Due.noSlots();
        same.crowd(7, 1);
        Due.same("saved behind a crowd that was there", same.count(9), 3);
    }

    private static void crowdOfEachSquare() {
        for (int square = 0; square < 36; square++) {
            TowerShades game = new TowerShades();
            Due.same("crowd(" + square + ", 3)", game.crowd(square, 3), 1);
            Due.same("the crowd of " + square, game.squareOf(square, 2), 3);
            Due.same("crowds together", game.count(7), 38);
        }
    }

    private static void eachCrowd() {
        TowerShades game = new TowerShades();
        for (int crowd = 0; crowd <= 9; crowd++) {
            game.crowd(35, crowd);
            Due.same("the crowd", game.squareOf(35, 2), crowd);
        }
    }

    private static void crowdReturnsTheOneBefore() {
        TowerShades game = new TowerShades();
        Due.same("crowd(4, 0)", game.crowd(4, 0), 1);
        Due.same("crowd(4, 9)", game.crowd(4, 9), 0);
        Due.same("crowd(4, 9) again", game.crowd(4, 9), 9);
        Due.same("crowd(4, 1)", game.crowd(4, 1), 9);
    }

    private static void noSuchCrowd() {
        TowerShades game = new TowerShades();
        for (int crowd : NO_CROWDS) {
            Due.argument("crowd(0, " + crowd + ")", () -> game.crowd(0, crowd));
            Due.argument("crowd(35, " + crowd + ")", () -> game.crowd(35, crowd));
        }
    }

    private static void tearTearsDown() {
        TowerShades game = Due.game("a1+1;a1=7;b1-9;c1+5");
        game.tear(0);
        game.tear(6);
        Due.same("the height of an own one", game.squareOf(0, 0), 0);
        Due.same("its owner", game.squareOf(0, 1), TowerShades.NONE);
        Due.same("its crowd stays", game.squareOf(0, 2), 7);
        Due.same("the height of the other one's", game.squareOf(6, 0), 0);
        Due.same("its owner", game.squareOf(6, 1), TowerShades.NONE);
        Due.same("towers", game.count(6), 1);
    }

    private static void tearIsUndoable() {
        TowerShades game = Due.noSlots();
        game.tear(5);
        Due.same("saved", game.count(9), 3);
        Due.same("undo()", game.undo(), 2);
        Due.alike("all behind undo", game, Due.noSlots());
    }

    private static void tearOfNoneIsUndoable() {
        TowerShades game = Due.noSlots();
        game.tear(0);
        Due.same("saved", game.count(9), 3);
        Due.same("undo()", game.undo(), 2);
        Due.alike("all behind undo", game, Due.noSlots());
    }

    private static void tearOfEachSquare() {
        for (int square = 0; square < 36; square++) {
            TowerShades game = Due.game("" + "abcdef".charAt(square / 6) + "123456".charAt(square % 6) + "+3;f6-4;a1-4");
            int due = square == 0 || square == 35 ? 4 : 3;
            Due.same("tear(" + square + ")", game.tear(square), due);
            Due.same("the height of " + square, game.squareOf(square, 0), 0);
        }
    }

    private static void tearReturnsTheHeight() {
        for (int height = 1; height <= 9; height++) {
            TowerShades game = Due.game("c3+" + height + ";d4-" + height);
            Due.same("tear of a " + height + " of 0", game.tear(14), height);
            Due.same("tear of a " + height + " of 1", game.tear(21), height);
        }
    }

    private static void tearOfNone() {
        TowerShades game = Due.game("a1+5");
        Due.same("tear(1)", game.tear(1), 0);
        game.tear(0);
        Due.same("tear(0) again", game.tear(0), 0);
        Due.same("the owner", game.squareOf(0, 1), TowerShades.NONE);
    }

    private static void hourIsSet() {
        TowerShades game = Due.game("a1+9");
        game.hour(6);
        Due.same("the hour", game.count(0), 6);
        Due.same("the side", game.count(1), 2);
        Due.same("dark squares", game.count(5), 5);
        game.hour(7);
        Due.same("the steepness", game.count(2), 3);
        Due.same("dark squares", game.count(5), 2);
    }

    private static void hourIsUndoable() {
        TowerShades game = Due.noSlots();
        game.hour(11);
        Due.same("saved", game.count(9), 3);
        Due.same("undo()", game.undo(), 2);
        Due.alike("all behind undo", game, Due.noSlots());
        TowerShades same = Due.noSlots();
        same.hour(1);
        Due.same("saved behind the hour that it was", same.count(9), 3);
    }

    private static void eachHour() {
        TowerShades game = new TowerShades();
        for (int hour = 11; hour >= 0; hour--) {
            game.hour(hour);
            Due.same("the hour", game.count(0), hour);
        }
    }

    private static void hourReturnsTheOneBefore() {
        TowerShades game = new TowerShades();
        Due.same("hour(11)", game.hour(11), 0);
        Due.same("hour(11) again", game.hour(11), 11);
        game.rest();
        Due.same("hour(5) behind 11 and a turn", game.hour(5), 0);
        Due.same("hour(0)", game.hour(0), 5);
    }

    private static void noSuchHour() {
        TowerShades game = new TowerShades();
        for (int hour : NO_HOURS) {
            Due.argument("hour(" + hour + ")", () -> game.hour(hour));
        }
    }
}
