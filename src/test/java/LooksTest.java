/** Promises 14 to 16: squareOf, playerOf, count. */
public final class LooksTest {
    public static void main(String[] args) {
        sides();
        steepness();
        heightOnTheSquareItself();
        severalShaders();
        lookingIsSweeping();
        playersAreTold();
        shadedRivalsCountOnce();
        cornersCount();
        countsAreTold();
        wrongInputs();
        looksChangeNothing();
        Due.finish();
    }

    /** c3 is 14; a tower of the height 9 there at the steepness 1 reaches the edge on each side. */
    private static void sides() {
        TowerShades game = Due.game("c3+9");
        int[][] dark = {{13, 12}, {8, 2}, {15, 16, 17}, {20, 26, 32}};
        for (int side = 0; side < 4; side++) {
            game.hour(3 * side);
            Due.same("shaded by c3 at side " + side, game.squareOf(14, 6), dark[side].length);
            Due.same("dark squares at side " + side, game.count(5), dark[side].length);
            for (int square : dark[side]) {
                Due.same(square + " is dark at side " + side, game.squareOf(square, 3), 1);
                Due.same(square + " is swept at side " + side, game.squareOf(square, 4), 1);
                Due.same(square + "'s shaders at side " + side, game.squareOf(square, 5), 1);
                Due.same(square + "'s hours", game.squareOf(square, 7) >> (3 * side) & 1, 1);
            }
        }
        Due.same("c3 itself", game.squareOf(14, 7), 0);
        Due.same("no square of another row or column", game.squareOf(7, 7), 0);
    }

    private static void steepness() {
        TowerShades game = Due.game("a6+7");
        int[] reach = {5, 2, 3};
        for (int hour = 0; hour < 3; hour++) {
            game.hour(hour);
            Due.same("shaded at hour " + hour, game.squareOf(5, 6), reach[hour]);
            for (int distance = 1; distance <= 5; distance++) {
                Due.same("dark at " + distance + " at hour " + hour, game.squareOf(5 - distance, 3),
                        distance <= reach[hour] ? 1 : 0);
            }
        }
        Due.same("hours of a5", game.squareOf(4, 7), 7);
        Due.same("hours of a3", game.squareOf(2, 7), 5);
        Due.same("hours of a1", game.squareOf(0, 7), 1);
    }

    private static void heightOnTheSquareItself() {
        TowerShades game = Due.game("a6+5;a4+3;b6+5;b4-2");
        Due.same("5 - 2 is not above 3", game.squareOf(3, 3), 0);
        Due.same("5 - 2 is above 2", game.squareOf(9, 3), 1);
        Due.same("a4 is not swept", game.squareOf(3, 4), 0);
        Due.same("b4 is swept", game.squareOf(9, 4), 1);
        Due.same("a6 shades a5, a3, a2", game.squareOf(5, 6), 3);
        Due.same("b6 shades b5, b4, b3, b2", game.squareOf(11, 6), 4);
    }

    private static void severalShaders() {
        TowerShades game = Due.game("a6+9;a5-1;a4+4;a3-3");
        Due.same("a1: 9 - 5, 4 - 3, 3 - 2", game.squareOf(0, 5), 3);
        Due.same("a5 by a6", game.squareOf(4, 5), 1);
        Due.same("a3: 9 - 3", game.squareOf(2, 5), 1);
        Due.same("a4: 9 - 2", game.squareOf(3, 5), 1);
        Due.same("a6", game.squareOf(5, 5), 0);
        Due.same("no tower shades nothing", game.squareOf(0, 6), 0);
    }

    private static void lookingIsSweeping() {
        int seed = 1;
        for (int run = 0; run < 60; run++) {
            TowerShades game = new TowerShades();
            for (int tower = 0; tower < 14; tower++) {
                seed = (seed * 1103515245 + 12345) & 0x7fffffff;
                int at = (seed >> 8) % 36;
                String text = "" + (char) ('a' + at / 6) + (char) ('1' + at % 6) + "+" + (char) ('1' + (seed >> 16) % 9);
                Due.write(game, text);
                game.load();
            }
            for (int hour = 0; hour < 12; hour++) {
                game.hour(hour);
                for (int square = 0; square < 36; square++) {
                    Due.same("sweep of " + square, game.squareOf(square, 4), game.squareOf(square, 3));
                    Due.same("hours of " + square, game.squareOf(square, 7) >> hour & 1, game.squareOf(square, 3));
                }
            }
        }
    }

    private static void playersAreTold() {
        TowerShades game = Due.game("a6+9;a6=3;a5-1;a5=9;a4+2;a4=8;b1-4;b1=5;c6-9;c5+1");
        int[][] due = {{0, 3, 12, 2, 3, 1}, {0, 3, 14, 1, 6, 1}};
        tell(game, due);
        game.rest();
        due[0][0] = 3;
        due[1][0] = 6;
        game.hour(0);
        tell(game, due);
        game.hour(6);
        tell(game, new int[][] {{3, 3, 12, 0, 12, 0}, {6, 3, 14, 0, 15, 0}});
    }

    private static void tell(TowerShades game, int[][] due) {
        for (int player = 0; player < 2; player++) {
            for (int what = 0; what < 6; what++) {
                Due.same("playerOf(" + player + ", " + what + ") at the hour " + game.count(0),
                        game.playerOf(player, what), due[player][what]);
            }
        }
    }

    private static void shadedRivalsCountOnce() {
        TowerShades game = Due.game("a6+9;a5+8;a4-1;a3-1;a2+1;b6-9;b5-1;b4+1");
        Due.same("0 shades a4, a3 of 1", game.playerOf(0, 5), 2);
        Due.same("1 shades b4 of 0; a4 does not shade a2", game.playerOf(1, 5), 1);
    }

    /** Each of the first and of the last square is counted, at its own side of the sun. */
    private static void cornersCount() {
        TowerShades game = Due.game("a1+3;a2-9;f6-2;f5+8");
        Due.same("heights of 0", game.playerOf(0, 2), 11);
        Due.same("heights of 1", game.playerOf(1, 2), 11);
        Due.same("a1 is dark", game.playerOf(0, 3), 1);
        Due.same("1 shades a1", game.playerOf(1, 5), 1);
        game.hour(6);
        Due.same("f6 is dark", game.playerOf(1, 3), 1);
        Due.same("0 shades f6", game.playerOf(0, 5), 1);
        Due.same("1 shades none", game.playerOf(1, 5), 0);
    }

    private static void countsAreTold() {
        TowerShades game = Due.game("a6+9;a5-1;a1=5;f6-2");
        game.hour(2);
        game.raise(4);
        game.rest();
        game.hour(10);
        int[] due = {10, 3, 3, 1, 1, 2, 3, 40, 1, 5};
        for (int what = 0; what < due.length; what++) {
            Due.same("count(" + what + ")", game.count(what), due[what]);
        }
        game.hour(9);
        Due.same("dark squares: b6, c6, d6, e6 and f6", game.count(5), 5);
        Due.same("steepness", game.count(2), 1);
        game.hour(0);
        Due.same("dark squares: a1 to a5, f5", game.count(5), 6);
    }

    private static void wrongInputs() {
        TowerShades game = new TowerShades();
        int[] far = {-1, Integer.MIN_VALUE, Integer.MAX_VALUE};
        for (int wrong : far) {
            Due.index("squareOf(" + wrong + ", 0)", () -> game.squareOf(wrong, 0));
            Due.index("squareOf(" + wrong + ", " + wrong + ")", () -> game.squareOf(wrong, wrong));
            Due.argument("squareOf(0, " + wrong + ")", () -> game.squareOf(0, wrong));
            Due.index("playerOf(" + wrong + ", 0)", () -> game.playerOf(wrong, 0));
            Due.index("playerOf(" + wrong + ", " + wrong + ")", () -> game.playerOf(wrong, wrong));
            Due.argument("playerOf(0, " + wrong + ")", () -> game.playerOf(0, wrong));
            Due.argument("count(" + wrong + ")", () -> game.count(wrong));
        }
        Due.index("squareOf(36, 0)", () -> game.squareOf(36, 0));
        Due.index("squareOf(36, 8)", () -> game.squareOf(36, 8));
        Due.argument("squareOf(35, 8)", () -> game.squareOf(35, 8));
        Due.index("playerOf(2, 0)", () -> game.playerOf(2, 0));
        Due.index("playerOf(2, 6)", () -> game.playerOf(2, 6));
        Due.argument("playerOf(1, 6)", () -> game.playerOf(1, 6));
        Due.argument("count(10)", () -> game.count(10));
    }

    private static void looksChangeNothing() {
        TowerShades game = Due.game("a6+9;a5-1;a1=5;f6-2");
        long before = game.digest();
        for (int what = 0; what < 10; what++) {
            game.count(what);
        }
        for (int square = 0; square < 36; square++) {
            for (int what = 0; what < 8; what++) {
                game.squareOf(square, what);
            }
        }
        for (int what = 0; what < 6; what++) {
            game.playerOf(0, what);
            game.playerOf(1, what);
        }
        Due.same("the digest behind the looks", game.digest(), before);
    }
}
