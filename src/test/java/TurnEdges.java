/** "Turns" and the promises 1 to 3 (a new object, raise, rest), clause by clause. */
final class TurnEdges {
    /** For the player 0: a1 is the other one's, b1 is 9, c1 is dark without a tower, d1 is its own and dark. */
    private static final String REFUSING = "a1-4;b1+9;c6+9;d1+1;d6-9;e1+2;e1=5;f6-2;f6=8";
    private static final int[] REFUSED = {0, 6, 12, 18};
    private static final int[] REASONS = {1, 2, 3, 3};

    private TurnEdges() {
    }

    static void list() {
        EdgesTest.edge("Turns", "The player 0 begins", TurnEdges::player0Begins);
        EdgesTest.edge("Turns", "the players make turns by turns", TurnEdges::byTurns);
        EdgesTest.edge("Turns", "In a turn a player raises the tower of a square by 1", TurnEdges::raisesBy1);
        EdgesTest.edge("Turns", "builds a tower of the height 1 on a square without one, as the player's own",
                TurnEdges::buildsAnOwnTower);
        EdgesTest.edge("Turns", "or waits", TurnEdges::waits);
        EdgesTest.edge("Turns", "1: the tower is the other player's", TurnEdges::otherPlayersTower);
        EdgesTest.edge("Turns", "for the first of these reasons that is so", TurnEdges::firstReason);
        EdgesTest.edge("Turns", "2: its height is 9", TurnEdges::height9);
        EdgesTest.edge("Turns", "3: the square is dark", TurnEdges::darkTower);
        EdgesTest.edge("Turns", "(also one without a tower)", TurnEdges::darkWithoutATower);
        EdgesTest.edge("Turns", "(A refused try is no turn.)", TurnEdges::refusedIsNoTurn);
        EdgesTest.edge("Turns", "each player is paid the crowds of all lit squares with a tower of this player",
                TurnEdges::bothArePaid);
        EdgesTest.edge("Turns", "Behind a turn", TurnEdges::paidBehindTheTurn);
        EdgesTest.edge("Turns", "at the hour of the turn", TurnEdges::paidAtTheHourOfTheTurn);
        EdgesTest.edge("Turns", "then the hour is 1 more (0 behind 11)", TurnEdges::hourGoesRound);
        EdgesTest.edge("Turns", "and it is the other player's turn", TurnEdges::otherPlayersTurn);
        promises1To3();
    }

    private static void promises1To3() {
        EdgesTest.edge("Promise 1", "Creates a field without towers", TurnEdges::newFieldIsEmpty);
        EdgesTest.edge("Promise 1", "at the hour 0", TurnEdges::newFieldIsAtTheHour0);
        EdgesTest.edge("Promise 1", "with empty slots", TurnEdges::newSlotsAreEmpty);
        EdgesTest.edge("Promise 1", "an empty buffer", TurnEdges::newBufferIsEmpty);
        EdgesTest.edge("Promise 2", "Raises or builds a tower, as the turn of the player whose turn it is",
                TurnEdges::raiseIsATurn);
        EdgesTest.edge("Promise 2", "Undoable", TurnEdges::raiseIsUndoable);
        EdgesTest.edge("Promise 2", "also if it is refused", TurnEdges::refusedRaiseIsUndoable);
        EdgesTest.edge("Promise 2", "`square`: 0 to 35", TurnEdges::raiseOfEachSquare);
        EdgesTest.edge("Promise 2", "Returns 10 and its height then, together", TurnEdges::raiseReturns10AndTheHeight);
        EdgesTest.edge("Promise 2", "if it is refused the reason", TurnEdges::raiseReturnsTheReason);
        EdgesTest.edge("Promise 2", "Throws `IndexOutOfBoundsException` if there is no such square",
                () -> Due.noSquare("raise", Due.rich()::raise));
        EdgesTest.edge("Promise 3", "The player whose turn it is waits, as the turn", TurnEdges::restIsATurn);
        EdgesTest.edge("Promise 3", "Undoable", TurnEdges::restIsUndoable);
        EdgesTest.edge("Promise 3", "Returns what this player is paid behind it", TurnEdges::restReturnsThePay);
    }

    private static void player0Begins() {
        TowerShades game = new TowerShades();
        Due.same("the player whose turn it is", game.count(3), 0);
        game.raise(9);
        Due.same("the owner of the first tower", game.squareOf(9, 1), 0);
    }

    private static void byTurns() {
        TowerShades game = new TowerShades();
        for (int turn = 0; turn < 6; turn++) {
            Due.same("the player of the turn " + turn, game.count(3), turn % 2);
            if (turn % 3 == 0) {
                game.rest();
            } else {
                game.raise(6 * turn);
                Due.same("the owner of its tower", game.squareOf(6 * turn, 1), turn % 2);
            }
        }
    }

    private static void raisesBy1() {
        TowerShades game = Due.game("a1+1;b1-1;c1+8;d1-8");
        int[] squares = {0, 6, 12, 18};
        int[] due = {2, 2, 9, 9};
        for (int i = 0; i < squares.length; i++) {
            game.raise(squares[i]);
            Due.same("the height of " + squares[i], game.squareOf(squares[i], 0), due[i]);
            Due.same("its owner", game.squareOf(squares[i], 1), i % 2);
        }
        Due.same("towers", game.count(6), 4);
    }

    private static void buildsAnOwnTower() {
        TowerShades game = Due.game("a1+5;b1-5");
        game.tear(0);
        game.tear(6);
        game.raise(6);
        game.raise(0);
        Due.same("the height of 0's tower where a 1's one stood", game.squareOf(6, 0), 1);
        Due.same("its owner", game.squareOf(6, 1), 0);
        Due.same("the height of 1's tower where a 0's one stood", game.squareOf(0, 0), 1);
        Due.same("its owner", game.squareOf(0, 1), 1);
    }

    private static void waits() {
        TowerShades game = Due.game("a1+5;b1-9");
        game.rest();
        Due.same("turns", game.count(4), 1);
        Due.same("towers", game.count(6), 2);
        Due.same("heights of 0", game.playerOf(0, 2), 5);
        Due.same("heights of 1", game.playerOf(1, 2), 9);
        TowerShades full = Due.game("a1-9");
        Due.same("to wait is not refused", full.rest(), 0);
        Due.same("refused", full.count(8), 0);
    }

    private static void otherPlayersTower() {
        TowerShades game = Due.game("a1-1;b1+1");
        Due.same("raise of 1's tower by 0", game.raise(0), 1);
        Due.same("its height", game.squareOf(0, 0), 1);
        game.rest();
        Due.same("raise of 0's tower by 1", game.raise(6), 1);
        Due.same("its height", game.squareOf(6, 0), 1);
    }

    /** That a tower of 9 is dark too cannot be: no shadow is above 8. */
    private static void firstReason() {
        TowerShades game = Due.game("a1-9;b1-1;b6+9;c1+9;c6+9");
        Due.same("the other one's, 9", game.raise(0), 1);
        Due.same("the other one's, dark", game.raise(6), 1);
        Due.same("its own, 9, behind a 9", game.raise(12), 2);
        game.rest();
        game.hour(0);
        Due.same("the other one's, 9, behind a 9, for 1", game.raise(12), 1);
        Due.same("its own, dark, for 1", game.raise(6), 3);
    }

    private static void height9() {
        TowerShades game = Due.game("a1+9;b1-9;c1+8");
        Due.same("raise of a 9 by 0", game.raise(0), 2);
        Due.same("raise of an 8", game.raise(12), 19);
        Due.same("raise of a 9 by 1", game.raise(6), 2);
        game.rest();
        Due.same("raise of what is 9 now", game.raise(12), 2);
    }

    private static void darkTower() {
        TowerShades game = Due.game("a1+1;a3+4;b1+1;b3-4;c1+1;c3-3");
        Due.same("dark by its own", game.raise(0), 3);
        Due.same("dark by the other one's", game.raise(6), 3);
        Due.same("3 - 2 is not above 1", game.raise(12), 12);
    }

    private static void darkWithoutATower() {
        TowerShades game = Due.game("a6+2");
        Due.same("raise of a5", game.raise(4), 3);
        Due.same("a5's owner", game.squareOf(4, 1), TowerShades.NONE);
        Due.same("raise of a4", game.raise(3), 11);
    }

    private static void refusedIsNoTurn() {
        for (int i = 0; i < REFUSED.length; i++) {
            TowerShades game = Due.game(REFUSING);
            Due.same("raise of " + REFUSED[i], game.raise(REFUSED[i]), REASONS[i]);
            Due.same("turns", game.count(4), 0);
            Due.same("the player", game.count(3), 0);
            Due.same("the hour", game.count(0), 0);
            Due.same("the score of 0", game.playerOf(0, 0), 0);
            Due.same("the score of 1", game.playerOf(1, 0), 0);
            Due.same("towers", game.count(6), 7);
            Due.same("heights of 0", game.playerOf(0, 2), 21);
            Due.same("heights of 1", game.playerOf(1, 2), 15);
        }
    }

    /** a5 is dark and b1 has no tower: nobody is paid for these; the crowd of c1 is 0. */
    private static void bothArePaid() {
        String text = "a6+3;a6=4;a5-1;a5=9;b1=9;c1+1;c1=0;d1-1;d1=7;e1-2;e1=6;f1+2";
        TowerShades game = Due.game(text);
        game.rest();
        Due.same("the score of 0 behind a rest of 0", game.playerOf(0, 0), 4 + 0 + 1);
        Due.same("the score of 1", game.playerOf(1, 0), 7 + 6);
        game.hour(0);
        game.rest();
        Due.same("the score of 0 behind a rest of 1", game.playerOf(0, 0), 10);
        Due.same("the score of 1", game.playerOf(1, 0), 26);
        TowerShades raised = Due.game(text);
        raised.raise(30);
        Due.same("the score of 0 behind a raise", raised.playerOf(0, 0), 5);
        Due.same("the score of 1 behind a raise", raised.playerOf(1, 0), 13);
    }

    private static void paidBehindTheTurn() {
        TowerShades built = Due.game("c3=6");
        built.raise(14);
        Due.same("the score by the tower just built", built.playerOf(0, 0), 6);
        TowerShades shading = Due.game("a6+1;a5=5");
        shading.rest();
        shading.raise(4);
        shading.hour(0);
        shading.raise(5);
        Due.same("the score of 1: its tower of 1 is lit by 2 - 1", shading.playerOf(1, 0), 5 + 5);
        shading.hour(0);
        shading.rest();
        shading.hour(0);
        shading.raise(5);
        Due.same("the score of 1: the tower just raised darkens it", shading.playerOf(1, 0), 5 + 5 + 5);
    }

    /** a1 is lit at the hour 2, dark at 3, lit at 4. */
    private static void paidAtTheHourOfTheTurn() {
        TowerShades game = Due.game("a1+1;a1=5;f1-9", 2);
        Due.same("rest at the hour 2", game.rest(), 5);
        Due.same("the score of 0 behind the hour 2", game.playerOf(0, 0), 5);
        Due.same("a1 is dark at the hour 3", game.squareOf(0, 3), 1);
        game.rest();
        Due.same("the score of 0 behind the hour 3", game.playerOf(0, 0), 5);
        Due.same("a1 is lit at the hour 4", game.squareOf(0, 3), 0);
        Due.same("rest at the hour 4", game.rest(), 5);
        Due.same("the score of 0 behind the hour 4", game.playerOf(0, 0), 10);
    }

    private static void hourGoesRound() {
        TowerShades game = new TowerShades();
        game.hour(10);
        game.rest();
        Due.same("the hour behind 10", game.count(0), 11);
        game.rest();
        Due.same("the hour behind 11, by rest", game.count(0), 0);
        game.hour(11);
        game.raise(0);
        Due.same("the hour behind 11, by raise", game.count(0), 0);
        game.raise(1);
        Due.same("the hour behind 0", game.count(0), 1);
    }

    private static void otherPlayersTurn() {
        TowerShades game = new TowerShades();
        game.raise(0);
        Due.same("the player behind a raise of 0", game.count(3), 1);
        game.raise(6);
        Due.same("the player behind a raise of 1", game.count(3), 0);
        game.rest();
        Due.same("the player behind a rest of 0", game.count(3), 1);
        game.rest();
        Due.same("the player behind a rest of 1", game.count(3), 0);
    }

    private static void newFieldIsEmpty() {
        TowerShades game = new TowerShades();
        Due.same("towers", game.count(6), 0);
        Due.same("towers of 0", game.playerOf(0, 1), 0);
        Due.same("towers of 1", game.playerOf(1, 1), 0);
        for (int square = 0; square < 36; square++) {
            Due.same("the owner of " + square, game.squareOf(square, 1), TowerShades.NONE);
            Due.same("the height of " + square, game.squareOf(square, 0), 0);
        }
    }

    private static void newFieldIsAtTheHour0() {
        TowerShades game = new TowerShades();
        int[] due = {0, 0, 1, 0, 0, 0, 0, 36, 0, 0};
        for (int what = 0; what < due.length; what++) {
            Due.same("count(" + what + ")", game.count(what), due[what]);
        }
        Due.same("the score of 0", game.playerOf(0, 0), 0);
        Due.same("the score of 1", game.playerOf(1, 0), 0);
    }

    private static void newSlotsAreEmpty() {
        TowerShades game = new TowerShades();
        Due.state("goBack(0)", () -> game.goBack(0));
        Due.state("goBack(1)", () -> game.goBack(1));
    }

    private static void newBufferIsEmpty() {
        TowerShades game = new TowerShades();
        Due.same("firstError()", game.firstError(), 0);
        Due.same("clearBuffer()", game.clearBuffer(), 0);
        Due.same("the length behind an append", game.append('a'), 1);
    }

    private static void raiseIsATurn() {
        TowerShades game = new TowerShades();
        game.raise(8);
        Due.same("the owner", game.squareOf(8, 1), 0);
        Due.same("turns", game.count(4), 1);
        Due.same("the hour", game.count(0), 1);
        Due.same("the player", game.count(3), 1);
        Due.same("the score of 0", game.playerOf(0, 0), 1);
        game.raise(20);
        Due.same("the owner of the next one", game.squareOf(20, 1), 1);
        Due.same("turns", game.count(4), 2);
    }

    private static void raiseIsUndoable() {
        TowerShades raised = Due.noSlots();
        Due.same("raise of an own tower", raised.raise(7), 14);
        Due.same("saved", raised.count(9), 3);
        Due.same("undo()", raised.undo(), 2);
        Due.alike("all behind undo of a raise", raised, Due.noSlots());
        TowerShades built = Due.noSlots();
        Due.same("raise on an empty square", built.raise(0), 11);
        Due.same("saved", built.count(9), 3);
        Due.same("undo()", built.undo(), 2);
        Due.alike("all behind undo of a tower built", built, Due.noSlots());
    }

    private static void refusedRaiseIsUndoable() {
        for (int i = 0; i < REFUSED.length; i++) {
            TowerShades game = Due.game(REFUSING);
            game.raise(REFUSED[i]);
            Due.same("saved behind the reason " + REASONS[i], game.count(9), 2);
            Due.same("refused", game.count(8), 1);
            Due.same("undo()", game.undo(), 1);
            Due.same("refused behind undo", game.count(8), 0);
            Due.alike("all behind undo", game, Due.game(REFUSING));
        }
    }

    private static void raiseOfEachSquare() {
        for (int square = 0; square < 36; square++) {
            TowerShades game = new TowerShades();
            Due.same("raise(" + square + ")", game.raise(square), 11);
            Due.same("the height of " + square, game.squareOf(square, 0), 1);
            Due.same("towers", game.count(6), 1);
        }
    }

    private static void raiseReturns10AndTheHeight() {
        TowerShades game = new TowerShades();
        for (int height = 1; height <= 9; height++) {
            Due.same("raise to " + height, game.raise(0), 10 + height);
            game.rest();
        }
    }

    private static void raiseReturnsTheReason() {
        TowerShades game = Due.game(REFUSING);
        for (int i = 0; i < REFUSED.length; i++) {
            Due.same("raise(" + REFUSED[i] + ")", game.raise(REFUSED[i]), REASONS[i]);
        }
    }

    private static void restIsATurn() {
        TowerShades game = Due.game("a1+1;a1=3;b1-1;b1=4");
        game.rest();
        Due.same("turns", game.count(4), 1);
        Due.same("the hour", game.count(0), 1);
        Due.same("the player", game.count(3), 1);
        Due.same("the score of 0", game.playerOf(0, 0), 3);
        Due.same("the score of 1", game.playerOf(1, 0), 4);
    }

    private static void restIsUndoable() {
        TowerShades game = Due.game("a1+1;a1=3;b1-1;b1=4");
        game.rest();
        Due.same("saved", game.count(9), 2);
        Due.same("undo()", game.undo(), 1);
        Due.alike("all behind undo", game, Due.game("a1+1;a1=3;b1-1;b1=4"));
    }

    private static void restReturnsThePay() {
        TowerShades game = Due.game("a1+1;a1=3;b1-1;b1=4;c1-2;d6-9;d1+2;d1=9");
        Due.same("rest of 0: d1 is dark", game.rest(), 3);
        game.hour(0);
        Due.same("rest of 1", game.rest(), 4 + 1 + 1);
        Due.same("rest of 0 at the steepness 3", game.rest(), 3 + 9);
        Due.same("rest without towers", new TowerShades().rest(), 0);
    }
}
