/** "What it is", "Terms", "The field" and "The sun", clause by clause. */
final class TermEdges {
    private static final int[] STEEPNESS = {1, 3, 2};
    private static final int[] SOUTHWARD = {0, 1, 0, -1};
    private static final int[] EASTWARD = {1, 0, -1, 0};

    private TermEdges() {
    }

    static void list() {
        EdgesTest.edge("What it is", "An object is used for at most 512 calls after it has been made; what later calls "
                + "answer is free", TermEdges::manyCalls);
        EdgesTest.edge("Terms", "All numbers are integers, but for a share", TermEdges::shareIsNoInteger);
        EdgesTest.edge("Terms", "divisions are rounded down", TermEdges::divisionsAreRoundedDown);
        field();
        sun();
    }

    private static void field() {
        EdgesTest.edge("The field", "has 6 rows and 6 columns of squares", TermEdges::squaresAre36);
        EdgesTest.edge("The field", "the square in the row r and the column c has the number 6 * r + c",
                TermEdges::eachSquareHasItsNumber);
        EdgesTest.edge("The field", "the row 0 is in the north, the column 0 in the west", TermEdges::cornersOfTheField);
        EdgesTest.edge("The field", "a height of 1 to 9", TermEdges::heights1To9);
        EdgesTest.edge("The field", "an owner, the player 0 or 1", TermEdges::owners0And1);
        EdgesTest.edge("The field", "or none, as at first", TermEdges::noTowerAtFirst);
        EdgesTest.edge("The field", "its height is 0 then", TermEdges::noTowerHasTheHeight0);
        EdgesTest.edge("The field", "A square has a crowd, 0 to 9", TermEdges::crowds0To9);
        EdgesTest.edge("The field", "at first 1", TermEdges::crowdsAreAtFirst1);
    }

    private static void sun() {
        EdgesTest.edge("The sun", "The hour is 0 to 11", TermEdges::hours0To11);
        EdgesTest.edge("The sun", "at first 0", () -> Due.same("the hour", new TowerShades().count(0), 0));
        EdgesTest.edge("The sun", "The sun stands at the side hour / 3: 0 in the east, 1 in the south, 2 in the west, "
                + "3 in the north", TermEdges::sides);
        EdgesTest.edge("The sun", "its steepness is 1, 3 or 2, as the hour modulo 3 is 0, 1 or 2", TermEdges::steepnesses);
        EdgesTest.edge("The sun", "Toward the sun from a square are the squares of its row (for the east and the west) "
                + "or of its column (for the south and the north) that lie on the side of the sun", TermEdges::towardTheSun);
        EdgesTest.edge("The sun", "the one beside it is at the distance 1, the next one at the distance 2, and so on",
                TermEdges::distances);
        EdgesTest.edge("The sun", "less its distance times the steepness", TermEdges::shadowsSink);
        EdgesTest.edge("The sun", "is greater than the height on the square itself", TermEdges::equalIsNotGreater);
        EdgesTest.edge("The sun", "otherwise it is lit", TermEdges::otherwiseLit);
        EdgesTest.edge("The sun", "A tower shades a square, if it is such a tower for it", TermEdges::hiddenTowersShade);
        EdgesTest.edge("The sun", "A square is dark, if a tower toward the sun from it", TermEdges::towersOfBothDarken);
    }

    private static void manyCalls() {
        TowerShades game = new TowerShades();
        for (int call = 1; call <= 510; call++) {
            game.rest();
        }
        Due.same("turns by the 511th call", game.count(4), 510);
        Due.same("saved by the 512th call", game.count(9), 6);
    }

    private static void shareIsNoInteger() {
        Due.same("darkShare() of one dark square", Due.game("a6+2").darkShare(), 1.0 / 36.0);
    }

    private static void divisionsAreRoundedDown() {
        TowerShades game = new TowerShades();
        for (int side = 0; side < 4; side++) {
            game.hour(3 * side + 2);
            Due.same("the side at the last hour of it", game.count(1), side);
        }
    }

    private static void squaresAre36() {
        TowerShades game = new TowerShades();
        for (int square = 0; square < 36; square++) {
            Due.same("the crowd of " + square, game.squareOf(square, 2), 1);
        }
        Due.index("squareOf(36, 2)", () -> game.squareOf(36, 2));
        Due.same("crowds together", game.count(7), 36);
    }

    private static void eachSquareHasItsNumber() {
        for (int square = 0; square < 36; square++) {
            String place = "" + "abcdef".charAt(square / 6) + "123456".charAt(square % 6);
            TowerShades game = Due.game(place + "-4;" + place + "=8");
            Due.same("the height of " + place, game.squareOf(square, 0), 4);
            Due.same("the crowd of " + place, game.squareOf(square, 2), 8);
            Due.same("towers", game.count(6), 1);
        }
    }

    private static void cornersOfTheField() {
        int[][] shades = {{0, 5, 30}, {3, 30, 5}, {6, 5, 30}, {9, 30, 5}};
        String[] towers = {"a6+6", "f1+6", "a1+6", "a1+6"};
        int[] dark = {0, 0, 5, 30};
        for (int i = 0; i < towers.length; i++) {
            TowerShades game = Due.game(towers[i], shades[i][0]);
            Due.same("the far corner at the hour " + shades[i][0], game.squareOf(dark[i], 3), 1);
            Due.same("another corner", game.squareOf(shades[i][2], 3), 0);
        }
    }

    private static void heights1To9() {
        TowerShades game = Due.game("a1+1;a2+9");
        Due.same("the least height", game.squareOf(0, 0), 1);
        Due.same("the greatest height", game.squareOf(1, 0), 9);
        Due.same("raise of a 9", game.raise(1), 2);
        Due.same("the greatest height still", game.squareOf(1, 0), 9);
        Due.write(game, "a3+0");
        Due.argument("load of a height 0", game::load);
    }

    private static void owners0And1() {
        TowerShades game = new TowerShades();
        game.raise(0);
        game.raise(1);
        Due.same("the owner of 0", game.squareOf(0, 1), 0);
        Due.same("the owner of 1", game.squareOf(1, 1), 1);
        Due.same("towers of 0", game.playerOf(0, 1), 1);
        Due.same("towers of 1", game.playerOf(1, 1), 1);
    }

    private static void noTowerAtFirst() {
        TowerShades game = new TowerShades();
        for (int square = 0; square < 36; square++) {
            Due.same("the owner of " + square, game.squareOf(square, 1), TowerShades.NONE);
        }
        Due.same("towers", game.count(6), 0);
    }

    private static void noTowerHasTheHeight0() {
        TowerShades game = new TowerShades();
        for (int square = 0; square < 36; square++) {
            Due.same("the height of " + square, game.squareOf(square, 0), 0);
        }
        game.raise(7);
        game.tear(7);
        Due.same("the height of a torn one", game.squareOf(7, 0), 0);
    }

    private static void crowds0To9() {
        TowerShades game = Due.game("a1=0;a2=9");
        Due.same("the least crowd", game.squareOf(0, 2), 0);
        Due.same("the greatest crowd", game.squareOf(1, 2), 9);
        game.crowd(2, 0);
        game.crowd(3, 9);
        Due.same("the least crowd, set", game.squareOf(2, 2), 0);
        Due.same("the greatest crowd, set", game.squareOf(3, 2), 9);
        Due.same("crowds together", game.count(7), 0 + 9 + 0 + 9 + 32);
    }

    private static void crowdsAreAtFirst1() {
        TowerShades game = new TowerShades();
        Due.same("the crowd of the first square", game.squareOf(0, 2), 1);
        Due.same("the crowd of the last square", game.squareOf(35, 2), 1);
        Due.same("crowds together", game.count(7), 36);
    }

    private static void hours0To11() {
        TowerShades game = new TowerShades();
        for (int turn = 0; turn <= 12; turn++) {
            Due.same("the hour behind " + turn + " turns", game.count(0), turn == 12 ? 0 : turn);
            game.rest();
        }
    }

    private static void sides() {
        for (int hour = 0; hour < 12; hour++) {
            TowerShades game = Due.game("c3+9", hour);
            Due.same("the side at the hour " + hour, game.count(1), hour / 3);
            int shaded = 14 - 6 * SOUTHWARD[hour / 3] - EASTWARD[hour / 3];
            int[] beside = {8, 13, 15, 20};
            for (int square : beside) {
                Due.same(square + " at the hour " + hour, game.squareOf(square, 3), square == shaded ? 1 : 0);
            }
        }
    }

    private static void steepnesses() {
        for (int hour = 0; hour < 12; hour++) {
            TowerShades game = new TowerShades();
            game.hour(hour);
            Due.same("the steepness at the hour " + hour, game.count(2), STEEPNESS[hour % 3]);
            int square = 14;
            int from = square + 6 * SOUTHWARD[hour / 3] + EASTWARD[hour / 3];
            Due.same("needed at the hour " + hour, game.needed(from, square), 1 + STEEPNESS[hour % 3]);
        }
    }

    /** Of all pairs of squares on all sides: a row ends at the edge of the field, and does not go on in the next one. */
    private static void towardTheSun() {
        for (int from = 0; from < 36; from++) {
            String place = "" + "abcdef".charAt(from / 6) + "123456".charAt(from % 6);
            for (int side = 0; side < 4; side++) {
                TowerShades game = Due.game(place + "+9", 3 * side);
                for (int square = 0; square < 36; square++) {
                    int due = distance(side, from, square) > 0 ? 1 : 0;
                    Due.same(place + " shades " + square + " at the side " + side, game.squareOf(square, 3), due);
                }
            }
        }
    }

    private static int distance(int side, int from, int square) {
        for (int distance = 1; distance <= 5; distance++) {
            int row = square / 6 + distance * SOUTHWARD[side];
            int column = square % 6 + distance * EASTWARD[side];
            if (row == from / 6 && column == from % 6) {
                return distance;
            }
        }
        return 0;
    }

    private static void distances() {
        int[] squares = {0, 0, 35, 35};
        for (int side = 0; side < 4; side++) {
            TowerShades game = new TowerShades();
            game.hour(3 * side);
            for (int distance = 1; distance <= 5; distance++) {
                int from = squares[side] + distance * (6 * SOUTHWARD[side] + EASTWARD[side]);
                Due.same("needed at " + distance + " at the side " + side, game.needed(from, squares[side]), distance + 1);
            }
        }
    }

    private static void shadowsSink() {
        int[] reach = {5, 2, 4};
        for (int hour = 0; hour < 3; hour++) {
            TowerShades game = Due.game("d6-9", hour);
            for (int distance = 1; distance <= 5; distance++) {
                Due.same("dark at " + distance + " at the hour " + hour, game.squareOf(23 - distance, 3),
                        distance <= reach[hour] ? 1 : 0);
            }
        }
    }

    private static void equalIsNotGreater() {
        TowerShades game = Due.game("a6+4;a4-2;b6+4;b4-1;c6+1;d6+2;e6+9;e1+4;f6+9;f1+3");
        Due.same("4 - 2 and 2", game.squareOf(3, 3), 0);
        Due.same("4 - 2 and 1", game.squareOf(9, 3), 1);
        Due.same("1 - 1 and no tower", game.squareOf(16, 3), 0);
        Due.same("2 - 1 and no tower", game.squareOf(22, 3), 1);
        Due.same("9 - 5 and 4", game.squareOf(24, 3), 0);
        Due.same("9 - 5 and 3", game.squareOf(30, 3), 1);
    }

    private static void otherwiseLit() {
        TowerShades empty = new TowerShades();
        TowerShades full = new TowerShades();
        for (char row = 'a'; row <= 'f'; row++) {
            Due.write(full, row + "1+9;" + row + "2+9;" + row + "3+9;" + row + "4+9;" + row + "5+9;" + row + "6+9");
            full.load();
        }
        for (int hour = 0; hour < 12; hour++) {
            empty.hour(hour);
            full.hour(hour);
            Due.same("dark squares without towers", empty.count(5), 0);
            Due.same("dark squares if all have 9", full.count(5), 0);
        }
    }

    private static void hiddenTowersShade() {
        TowerShades game = Due.game("a6+9;a5+9;a4-1");
        Due.same("towers that shade a1: 9 - 5, 9 - 4, not 1 - 3", game.squareOf(0, 5), 2);
        Due.same("squares that a6 shades, behind a5", game.squareOf(5, 6), 4);
        Due.same("squares that a5 shades", game.squareOf(4, 6), 4);
        Due.same("squares that a4 shades", game.squareOf(3, 6), 0);
    }

    private static void towersOfBothDarken() {
        TowerShades game = Due.game("a6+2;b6-2");
        Due.same("a5, by the player 0", game.squareOf(4, 3), 1);
        Due.same("b5, by the player 1", game.squareOf(10, 3), 1);
        game.tear(5);
        Due.same("a5 behind the tear", game.squareOf(4, 3), 0);
    }
}
