/** The promises 14 to 16 (squareOf, playerOf, count), clause by clause. */
final class LookEdges {
    private static final int[] FAR = {-1, Integer.MIN_VALUE, Integer.MAX_VALUE};

    private LookEdges() {
    }

    static void list() {
        EdgesTest.edge("Exceptions", "---- looks; nothing is changed", LookEdges::looksChangeNothing);
        squares();
        players();
        counts();
    }

    private static void squares() {
        EdgesTest.edge("Promise 14", "Returns something of a square.", LookEdges::numbersOfASquare);
        EdgesTest.edge("Promise 14", "`square`: 0 to 35", LookEdges::eachSquare);
        EdgesTest.edge("Promise 14", "0: the height", LookEdges::heights);
        EdgesTest.edge("Promise 14", "1: the owner of the tower, NONE without one", LookEdges::owners);
        EdgesTest.edge("Promise 14", "2: the crowd", LookEdges::crowds);
        EdgesTest.edge("Promise 14", "3: 1 if it is dark now, told by looking toward the sun, otherwise 0",
                () -> darkOrLit(3));
        EdgesTest.edge("Promise 14", "4: the same, told by sweeping along its row or column from the side of the sun",
                () -> darkOrLit(4));
        EdgesTest.edge("Promise 14", "with a shadow that sinks by the steepness", LookEdges::sweepingIsLooking);
        EdgesTest.edge("Promise 14", "5: towers that shade it now", LookEdges::towersThatShade);
        EdgesTest.edge("Promise 14", "6: squares that its tower shades now", LookEdges::squaresThatItShades);
        EdgesTest.edge("Promise 14", "7: the hours of the twelve in which it is dark, as a mask", LookEdges::hourMasks);
        EdgesTest.edge("Promise 14", "Returns the number.", LookEdges::numbersOfAnEmptySquare);
        EdgesTest.edge("Promise 14", "Throws `IndexOutOfBoundsException` if there is no such square",
                () -> Due.noSquare("squareOf", square -> Due.rich().squareOf(square, 0)));
        EdgesTest.edge("Promise 14", "Throws `IllegalArgumentException` if what is not 0 to 7", LookEdges::noSquareWhat);
    }

    private static void players() {
        EdgesTest.edge("Promise 15", "Returns something of a player.", LookEdges::numbersOfAPlayer);
        EdgesTest.edge("Promise 15", "`player`: 0 or 1", LookEdges::bothPlayers);
        EdgesTest.edge("Promise 15", "0: the score: what the player was paid so far", LookEdges::scores);
        EdgesTest.edge("Promise 15", "1: towers;", LookEdges::towersOfPlayers);
        EdgesTest.edge("Promise 15", "2: heights of these together", LookEdges::heightsOfPlayers);
        EdgesTest.edge("Promise 15", "3: towers that are dark now", LookEdges::darkTowers);
        EdgesTest.edge("Promise 15", "4: what the player would be paid now", LookEdges::paidNow);
        EdgesTest.edge("Promise 15", "5: towers of the other player that towers of this one shade now",
                LookEdges::shadedRivals);
        EdgesTest.edge("Promise 15", "Returns the number.", LookEdges::numbersOfARival);
        EdgesTest.edge("Promise 15", "Throws `IndexOutOfBoundsException` if there is no such player",
                LookEdges::noSuchPlayer);
        EdgesTest.edge("Promise 15", "Throws `IllegalArgumentException` if what is not 0 to 5", LookEdges::noPlayerWhat);
    }

    private static void counts() {
        EdgesTest.edge("Promise 16", "Returns a number.", LookEdges::eachCountAtFirst);
        EdgesTest.edge("Promise 16", "0: the hour; 1: the side of the sun; 2: its steepness", LookEdges::countsOfTheSun);
        EdgesTest.edge("Promise 16", "3: the player whose turn it is; 4: turns so far", LookEdges::countsOfTurns);
        EdgesTest.edge("Promise 16", "5: dark squares now", LookEdges::countOfDarkSquares);
        EdgesTest.edge("Promise 16", "6: towers", LookEdges::countOfTowers);
        EdgesTest.edge("Promise 16", "7: crowds of all squares, together", LookEdges::countOfCrowds);
        EdgesTest.edge("Promise 16", "8: what was refused so far", LookEdges::countOfRefused);
        EdgesTest.edge("Promise 16", "9: saved states", LookEdges::countOfSaved);
        EdgesTest.edge("Promise 16", "Returns the number.", LookEdges::eachCount);
        EdgesTest.edge("Promise 16", "Throws `IllegalArgumentException` if what is not 0 to 9", LookEdges::noCountWhat);
    }

    private static void looksChangeNothing() {
        TowerShades game = Due.rich();
        for (int what = 0; what <= 9; what++) {
            game.count(what);
        }
        for (int square = 0; square < 36; square++) {
            for (int what = 0; what <= 7; what++) {
                game.squareOf(square, what);
            }
        }
        for (int what = 0; what <= 5; what++) {
            game.playerOf(0, what);
            game.playerOf(1, what);
        }
        Due.alike("all behind the looks", game, Due.rich());
    }

    private static void eachSquare() {
        TowerShades game = new TowerShades();
        int[] due = {0, TowerShades.NONE, 1, 0, 0, 0, 0, 0};
        for (int square = 0; square < 36; square++) {
            for (int what = 0; what <= 7; what++) {
                Due.same("squareOf(" + square + ", " + what + ")", game.squareOf(square, what), due[what]);
            }
        }
    }

    private static void heights() {
        TowerShades game = Due.game("a1+1;f6-9");
        Due.same("the height of a1", game.squareOf(0, 0), 1);
        Due.same("the height of f6", game.squareOf(35, 0), 9);
        Due.same("the height without a tower", game.squareOf(1, 0), 0);
        game.tear(35);
        Due.same("the height of a torn one", game.squareOf(35, 0), 0);
    }

    private static void owners() {
        TowerShades game = Due.game("a1+1;f6-9");
        Due.same("the owner of a1", game.squareOf(0, 1), 0);
        Due.same("the owner of f6", game.squareOf(35, 1), 1);
        Due.same("the owner without a tower", game.squareOf(1, 1), -1);
        game.tear(0);
        Due.same("the owner of a torn one", game.squareOf(0, 1), -1);
    }

    private static void crowds() {
        TowerShades game = Due.game("a1=0;f6=9;b1+5");
        Due.same("the crowd of a1", game.squareOf(0, 2), 0);
        Due.same("the crowd of f6", game.squareOf(35, 2), 9);
        Due.same("the crowd of b1 under a tower", game.squareOf(6, 2), 1);
    }

    /** At each side: c3 darkens the farthest square that it reaches, but not the one behind, nor itself. */
    private static void darkOrLit(int what) {
        int[] near = {13, 8, 15, 20};
        int[] far = {12, 2, 16, 26};
        int[] behind = {-1, -1, 17, 32};
        for (int side = 0; side < 4; side++) {
            TowerShades game = Due.game("c3+3", 3 * side);
            Due.same("c3 itself", game.squareOf(14, what), 0);
            Due.same("at the distance 1 at the side " + side, game.squareOf(near[side], what), 1);
            Due.same("at the distance 2 at the side " + side, game.squareOf(far[side], what), 1);
            if (behind[side] >= 0) {
                Due.same("at the distance 3, 3 - 3", game.squareOf(behind[side], what), 0);
            }
            game.hour(3 * side + 1);
            Due.same("at the distance 1, 3 - 3", game.squareOf(near[side], what), 0);
            game.hour(3 * side + 2);
            Due.same("at the distance 1, 3 - 2", game.squareOf(near[side], what), 1);
            Due.same("at the distance 2, 3 - 4", game.squareOf(far[side], what), 0);
        }
        TowerShades own = Due.game("a6+4;a5+3;a4-1;b6-4;b5+2");
        Due.same("4 - 1 and 3", own.squareOf(4, what), 0);
        Due.same("4 - 2 and 1, behind a lit 3", own.squareOf(3, what), 1);
        Due.same("4 - 1 and 2", own.squareOf(10, what), 1);
    }

    /** A low tower does not hide the shadow of a high one, nor a high one that of a low one. */
    private static void sweepingIsLooking() {
        String[] rows = {"a6+9;a5-1;a4+4;a3-2", "a6-1;a5+1;a4-9;a2+6", "b1+9;b2+8;b3+7;b4+6;b5+5", "c1+1;d1+2;e1+3;f1+8",
            "a2+8;b2-7;c2+1;d2-3"};
        for (String row : rows) {
            for (int hour = 0; hour < 12; hour++) {
                TowerShades game = Due.game(row, hour);
                for (int square = 0; square < 36; square++) {
                    Due.same("the sweep of " + square + " at the hour " + hour, game.squareOf(square, 4),
                            game.squareOf(square, 3));
                }
            }
        }
    }

    private static void towersThatShade() {
        TowerShades game = Due.game("a6+9;a5-9;a4+9;a3-9;a2+9;b6+2;b5-1");
        Due.same("a1, by five", game.squareOf(0, 5), 5);
        Due.same("a2, a 9, by none", game.squareOf(1, 5), 0);
        Due.same("b5: 2 - 1 is not above 1", game.squareOf(10, 5), 0);
        game.hour(1);
        Due.same("a1 at the steepness 3, by a3 and a2", game.squareOf(0, 5), 2);
        game.hour(2);
        Due.same("a1 at the steepness 2, by a5 to a2", game.squareOf(0, 5), 4);
        game.hour(6);
        Due.same("a1 in the west", game.squareOf(0, 5), 0);
        Due.same("a6, a 9", game.squareOf(5, 5), 0);
    }

    private static void squaresThatItShades() {
        TowerShades game = Due.game("a6+9;a3-9;a2+3;b6+1");
        Due.same("a6: a5, a4, a2, a1", game.squareOf(5, 6), 4);
        Due.same("a3: a2, a1", game.squareOf(2, 6), 2);
        Due.same("a2: a1", game.squareOf(1, 6), 1);
        Due.same("b6, a 1", game.squareOf(11, 6), 0);
        Due.same("no tower", game.squareOf(4, 6), 0);
        game.hour(6);
        Due.same("a6 in the west", game.squareOf(5, 6), 0);
        Due.same("a3 in the west: a4, a5", game.squareOf(2, 6), 2);
        game.hour(9);
        Due.same("a6 in the north: b6 to f6", game.squareOf(5, 6), 5);
        int[] reach = {5, 2, 4};
        for (int hour = 0; hour < 12; hour++) {
            String corner = hour < 6 ? "f6+9" : "a1+9";
            int square = hour < 6 ? 35 : 0;
            Due.same(corner + " at the hour " + hour, Due.game(corner, hour).squareOf(square, 6), reach[hour % 3]);
        }
    }

    private static void hourMasks() {
        TowerShades game = Due.game("c4+2;d3+3;c2+4;b3+9;f6-1");
        int mask = 1 + 8 + 32 + 64 + 128 + 256 + 512 + 1024 + 2048;
        Due.same("c3: the hours 0; 3, 5; 6, 7, 8; 9, 10, 11", game.squareOf(14, 7), mask);
        game.hour(7);
        Due.same("c3, whatever the hour is", game.squareOf(14, 7), mask);
        Due.same("e6, by f6: none", game.squareOf(29, 7), 0);
        Due.same("a1: none", game.squareOf(0, 7), 0);
        TowerShades all = Due.game("c4+9;d3+9;c2+9;b3+9");
        Due.same("c3: all twelve", all.squareOf(14, 7), 4095);
    }

    private static void numbersOfASquare() {
        numbers(Due.game("a6+9;a5-2;a5=7;a4+1"), 4, 2, 1, 7, 1, 1, 1, 0, 7);
    }

    private static void numbersOfAnEmptySquare() {
        numbers(Due.game("a6+9;a5=0"), 4, 0, TowerShades.NONE, 0, 1, 1, 1, 0, 7);
    }

    private static void numbers(TowerShades game, int square, int... due) {
        for (int what = 0; what <= 7; what++) {
            Due.same("squareOf(" + square + ", " + what + ")", game.squareOf(square, what), due[what]);
        }
    }

    private static void noSquareWhat() {
        TowerShades game = Due.rich();
        for (int what : FAR) {
            Due.argument("squareOf(0, " + what + ")", () -> game.squareOf(0, what));
        }
        Due.argument("squareOf(35, 8)", () -> game.squareOf(35, 8));
        Due.argument("squareOf(0, 8)", () -> game.squareOf(0, 8));
    }

    private static void bothPlayers() {
        TowerShades game = new TowerShades();
        for (int what = 0; what <= 5; what++) {
            Due.same("playerOf(0, " + what + ")", game.playerOf(0, what), 0);
            Due.same("playerOf(1, " + what + ")", game.playerOf(1, what), 0);
        }
    }

    private static void scores() {
        TowerShades game = Due.game("a1+1;a1=3;b1-1;b1=4");
        game.rest();
        game.rest();
        Due.same("the score of 0", game.playerOf(0, 0), 6);
        Due.same("the score of 1", game.playerOf(1, 0), 8);
        game.tear(0);
        game.crowd(6, 0);
        Due.same("the score of 0 behind a tear", game.playerOf(0, 0), 6);
        Due.same("the score of 1 without a crowd", game.playerOf(1, 0), 8);
        game.rest();
        Due.same("the score of 0 without towers", game.playerOf(0, 0), 6);
        Due.same("the score of 1 by a crowd of 0", game.playerOf(1, 0), 8);
    }

    private static void towersOfPlayers() {
        TowerShades game = Due.game("a1+1;a2+9;f6+3;b1-1");
        Due.same("towers of 0, also a dark one", game.playerOf(0, 1), 3);
        Due.same("towers of 1", game.playerOf(1, 1), 1);
        game.tear(6);
        Due.same("towers of 1 behind the tear", game.playerOf(1, 1), 0);
    }

    private static void heightsOfPlayers() {
        TowerShades game = Due.game("a1+1;a2+9;f6+3;b1-2");
        Due.same("heights of 0", game.playerOf(0, 2), 13);
        Due.same("heights of 1", game.playerOf(1, 2), 2);
        game.tear(6);
        Due.same("heights of 1 without towers", game.playerOf(1, 2), 0);
    }

    private static void darkTowers() {
        TowerShades game = Due.game("a6+9;a5+1;a4-1;a3-9;b1+4;f6-2;f5-1");
        Due.same("dark towers of 0: a5", game.playerOf(0, 3), 1);
        Due.same("dark towers of 1: a4", game.playerOf(1, 3), 1);
        game.hour(6);
        Due.same("dark towers of 0 in the west: a5", game.playerOf(0, 3), 1);
        Due.same("dark towers of 1 in the west: a4", game.playerOf(1, 3), 1);
        game.hour(9);
        Due.same("dark towers of 0 in the north", game.playerOf(0, 3), 0);
        Due.same("dark towers of 1 in the north: f6, by 9 - 5", game.playerOf(1, 3), 1);
        TowerShades corners = Due.game("a1-1;a2+9;f5+9;f6-1");
        Due.same("dark towers of 1: a1, the first square", corners.playerOf(1, 3), 1);
        corners.hour(6);
        Due.same("dark towers of 1 in the west: f6, the last one", corners.playerOf(1, 3), 1);
    }

    private static void paidNow() {
        TowerShades game = Due.game("a6+9;a6=4;a5-1;a5=9;a4=9;f6-2;f6=0;e1-3;e1=5");
        Due.same("0 now", game.playerOf(0, 4), 4);
        Due.same("1 now: a5 is dark", game.playerOf(1, 4), 5);
        game.hour(6);
        Due.same("1 now in the west", game.playerOf(1, 4), 14);
        Due.same("the score is not changed", game.playerOf(1, 0), 0);
        Due.same("without towers", new TowerShades().playerOf(1, 4), 0);
    }

    private static void shadedRivals() {
        TowerShades game = Due.game("a6+9;a5+9;a4-1;a3-2;a2+1;b6-9;b5+1;b4-1");
        Due.same("by 0: a4 and a3, each once", game.playerOf(0, 5), 2);
        Due.same("by 1: b5", game.playerOf(1, 5), 1);
        game.hour(6);
        Due.same("by 0 in the west", game.playerOf(0, 5), 0);
        Due.same("by 1 in the west", game.playerOf(1, 5), 0);
        TowerShades corners = Due.game("a1+1;a2-3;f5-3;f6+1");
        Due.same("by 1: a1, the first square", corners.playerOf(1, 5), 1);
        corners.hour(6);
        Due.same("by 1 in the west: f6, the last one", corners.playerOf(1, 5), 1);
        Due.same("its own alone", Due.game("a6+9;a5+1;a4+1").playerOf(0, 5), 0);
    }

    private static void numbersOfAPlayer() {
        playersNumbers(0, 3, 2, 11, 1, 3, 1);
    }

    private static void numbersOfARival() {
        playersNumbers(1, 5, 2, 5, 1, 5, 0);
    }

    /** Behind one turn: a6 darkens a5 and a4. */
    private static void playersNumbers(int player, int... due) {
        TowerShades game = Due.game("a6+9;a6=3;a5-1;a5=9;a4+2;b1-4;b1=5");
        game.rest();
        game.hour(0);
        for (int what = 0; what <= 5; what++) {
            Due.same("playerOf(" + player + ", " + what + ")", game.playerOf(player, what), due[what]);
        }
    }

    private static void noSuchPlayer() {
        TowerShades game = Due.rich();
        for (int player : FAR) {
            Due.index("playerOf(" + player + ", 0)", () -> game.playerOf(player, 0));
        }
        Due.index("playerOf(2, 0)", () -> game.playerOf(2, 0));
        Due.index("playerOf(2, 5)", () -> game.playerOf(2, 5));
    }

    private static void noPlayerWhat() {
        TowerShades game = Due.rich();
        for (int what : FAR) {
            Due.argument("playerOf(0, " + what + ")", () -> game.playerOf(0, what));
        }
        Due.argument("playerOf(0, 6)", () -> game.playerOf(0, 6));
        Due.argument("playerOf(1, 6)", () -> game.playerOf(1, 6));
    }

    private static void eachCountAtFirst() {
        TowerShades game = new TowerShades();
        int[] due = {0, 0, 1, 0, 0, 0, 0, 36, 0, 0};
        for (int what = 0; what <= 9; what++) {
            Due.same("count(" + what + ")", game.count(what), due[what]);
        }
    }

    private static void countsOfTheSun() {
        int[] steepness = {1, 3, 2};
        TowerShades game = new TowerShades();
        for (int hour = 11; hour >= 0; hour--) {
            game.hour(hour);
            Due.same("the hour", game.count(0), hour);
            Due.same("the side at the hour " + hour, game.count(1), hour / 3);
            Due.same("the steepness at the hour " + hour, game.count(2), steepness[hour % 3]);
        }
    }

    private static void countsOfTurns() {
        TowerShades game = new TowerShades();
        for (int turn = 0; turn < 30; turn++) {
            Due.same("the player", game.count(3), turn % 2);
            Due.same("turns", game.count(4), turn);
            game.rest();
        }
        game.undo();
        Due.same("turns behind undo", game.count(4), 29);
        Due.same("the player behind undo", game.count(3), 1);
    }

    private static void countOfDarkSquares() {
        TowerShades game = new TowerShades();
        for (char row = 'a'; row <= 'f'; row++) {
            Due.write(game, row + "6-6;" + row + "4+1");
            game.load();
            Due.same("dark squares to the row " + row + ", towers too", game.count(5), 5 * (row - 'a' + 1));
        }
        game.hour(2);
        Due.same("at the steepness 2: two of each row", game.count(5), 12);
        game.hour(6);
        Due.same("in the west", game.count(5), 0);
    }

    private static void countOfTowers() {
        TowerShades game = Due.game("a1+1;b1-1;b1+2;c1=4");
        Due.same("towers of both", game.count(6), 2);
        game.raise(12);
        Due.same("towers behind one built", game.count(6), 3);
        game.rest();
        game.raise(12);
        Due.same("towers behind one raised", game.count(6), 3);
        game.tear(0);
        Due.same("towers behind a tear", game.count(6), 2);
    }

    private static void countOfCrowds() {
        TowerShades none = new TowerShades();
        TowerShades most = new TowerShades();
        for (int square = 0; square < 36; square++) {
            none.crowd(square, 0);
            most.crowd(square, 9);
            Due.same("the least, to " + square, none.count(7), 35 - square);
            Due.same("the most, to " + square, most.count(7), 36 + 8 * (square + 1));
        }
    }

    private static void countOfRefused() {
        TowerShades game = Due.game("a1-1;b1+9;c6+9");
        game.whyNot(0);
        game.ifRaised(0);
        game.bestSquare();
        Due.same("refused by looks", game.count(8), 0);
        game.raise(0);
        game.raise(6);
        game.raise(12);
        game.raise(0);
        Due.same("refused", game.count(8), 4);
        game.rest();
        game.raise(0);
        Due.same("refused behind two turns", game.count(8), 4);
        Due.index("raise(36)", () -> game.raise(36));
        Due.same("refused behind what throws", game.count(8), 4);
    }

    private static void countOfSaved() {
        TowerShades game = new TowerShades();
        Due.same("saved at first", game.count(9), 0);
        for (int call = 1; call <= 8; call++) {
            game.tear(0);
            Due.same("saved behind " + call, game.count(9), Math.min(call, 6));
        }
        game.undo();
        Due.same("saved behind undo", game.count(9), 5);
    }

    private static void eachCount() {
        TowerShades game = Due.game("a6+9;a5-1;a1=5;f6-2");
        game.hour(2);
        game.raise(4);
        game.rest();
        game.hour(10);
        int[] due = {10, 3, 3, 1, 1, 2, 3, 40, 1, 5};
        for (int what = 0; what <= 9; what++) {
            Due.same("count(" + what + ")", game.count(what), due[what]);
        }
    }

    private static void noCountWhat() {
        TowerShades game = Due.rich();
        for (int what : FAR) {
            Due.argument("count(" + what + ")", () -> game.count(what));
        }
        Due.argument("count(10)", () -> game.count(10));
    }
}
