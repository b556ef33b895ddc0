/** Promises 17 to 23: whyNot, ifRaised, bestSquare, needed, darkestHour, darkShare, digest. */
public final class WhatWouldBeTest {
    public static void main(String[] args) {
        whyNotTellsTheReason();
        ifRaisedTellsTheWorth();
        bestIsTheGreatest();
        noSquareIsBest();
        neededHeights();
        neededOnEachSide();
        darkestIsTheEarliest();
        shares();
        digestsOfGames();
        digestsByHour();
        firstDigests();
        nothingIsChanged();
        Due.finish();
    }

    private static void whyNotTellsTheReason() {
        TowerShades game = Due.game("a1-9;a6+9;b6-1;c6+8;d6-9;d5+9");
        Due.same("the other one's", game.whyNot(0), 1);
        Due.same("own, 9", game.whyNot(5), 2);
        Due.same("the other one's, 1", game.whyNot(11), 1);
        Due.same("own, 8", game.whyNot(17), 0);
        Due.same("9 and dark by nothing", game.whyNot(22), 2);
        Due.same("dark without a tower", game.whyNot(4), 3);
        Due.same("lit without a tower", game.whyNot(35), 0);
        Due.same("nothing is refused by it", game.count(8), 0);
        game.rest();
        Due.same("own, 9, of player 1", game.whyNot(0), 2);
        Due.same("the other one's, 9", game.whyNot(5), 1);
        Due.same("own, 1, of player 1", game.whyNot(11), 0);
        Due.same("dark at the steepness 3", game.whyNot(15), 3);
        Due.same("lit at the steepness 3", game.whyNot(14), 0);
        Due.index("whyNot(-1)", () -> game.whyNot(-1));
        Due.index("whyNot(36)", () -> game.whyNot(36));
    }

    private static void ifRaisedTellsTheWorth() {
        TowerShades game = Due.game("a6+1;a6=4;a5-1;a5=7;b1=9;c6-3;c6=2");
        Due.same("a6 to 2: a5 stays lit", game.ifRaised(5), 4 - 9);
        Due.same("b1", game.ifRaised(6), 9 + 4 - 9);
        Due.same("the other one's", game.ifRaised(17), -999);
        Due.same("dark c5", game.ifRaised(16), -999);
        Due.same("d4: the crowd 1", game.ifRaised(21), 1 + 4 - 9);
        TowerShades other = Due.game("a6+2;a6=4;a5-1;a5=7");
        Due.same("a6 to 3: a5 is dark", other.ifRaised(5), 4);
        Due.same("f1: a5 is lit", other.ifRaised(30), 1 + 4 - 7);
        other.rest();
        Due.same("a6 of player 0 for player 1", other.ifRaised(5), -999);
        Due.same("a5 for player 1", other.ifRaised(4), 7 - 4);
        Due.same("the owner stays none", other.squareOf(30, 1), TowerShades.NONE);
        Due.same("the height stays 1", other.squareOf(4, 0), 1);
        Due.index("ifRaised(-1)", () -> other.ifRaised(-1));
        Due.index("ifRaised(36)", () -> other.ifRaised(36));
    }

    private static void bestIsTheGreatest() {
        TowerShades game = new TowerShades();
        Due.same("of several the lowest", game.bestSquare(), 0);
        game.crowd(20, 5);
        game.crowd(27, 5);
        Due.same("the greatest crowd", game.bestSquare(), 20);
        game.crowd(35, 9);
        Due.same("the last square", game.bestSquare(), 35);
        TowerShades other = Due.game("a6+2;a6=4;a5-1;a5=7");
        Due.same("darkening beats the crowd of 1", other.bestSquare(), 5);
        TowerShades losing = Due.game("a1-1;a1=9;b1-1;b1=9");
        losing.crowd(2, 0);
        Due.same("a loss is better than none", losing.bestSquare(), 1);
        Due.same("the loss", losing.ifRaised(1), 1 - 18);
    }

    private static void noSquareIsBest() {
        TowerShades game = new TowerShades();
        String[] rows = {"a", "b", "c", "d", "e", "f"};
        for (String row : rows) {
            Due.write(game, row + "1-9;" + row + "2-9;" + row + "3-9;" + row + "4-9;" + row + "5-9;" + row + "6-9");
            game.load();
        }
        Due.same("all are the other one's", game.bestSquare(), TowerShades.NONE);
        game.rest();
        Due.same("all are 9", game.bestSquare(), TowerShades.NONE);
        game.tear(35);
        Due.same("only f6", game.bestSquare(), 35);
        game.hour(6);
        Due.same("f6 is dark by the west", game.bestSquare(), TowerShades.NONE);
    }

    private static void neededHeights() {
        TowerShades game = new TowerShades();
        Due.same("5 to 0 at the steepness 1", game.needed(5, 0), 6);
        Due.same("1 to 0", game.needed(1, 0), 2);
        Due.same("0 to 5: away from the sun", game.needed(0, 5), TowerShades.NONE);
        Due.same("0 to 0", game.needed(0, 0), TowerShades.NONE);
        Due.same("6 to 5: another row", game.needed(6, 5), TowerShades.NONE);
        Due.same("11 to 0: another row", game.needed(11, 0), TowerShades.NONE);
        game.hour(1);
        Due.same("2 to 0 at the steepness 3", game.needed(2, 0), 7);
        Due.same("3 to 0: 10", game.needed(3, 0), TowerShades.NONE);
        game.hour(2);
        Due.same("4 to 0 at the steepness 2: 9", game.needed(4, 0), 9);
        Due.same("5 to 0: 11", game.needed(5, 0), TowerShades.NONE);
        Due.write(game, "a1+7;a2-8;a4+9");
        game.load();
        game.hour(0);
        Due.same("2 to 0 above 7: 10", game.needed(2, 0), TowerShades.NONE);
        Due.same("1 to 0 above 7: what stands on 1 is no matter", game.needed(1, 0), 9);
        Due.same("2 to 1 above 8: 10", game.needed(2, 1), TowerShades.NONE);
        Due.same("3 to 2", game.needed(3, 2), 2);
        Due.index("needed(-1, 0)", () -> game.needed(-1, 0));
        Due.index("needed(36, 0)", () -> game.needed(36, 0));
        Due.index("needed(0, -1)", () -> game.needed(0, -1));
        Due.index("needed(0, 36)", () -> game.needed(0, 36));
    }

    private static void neededOnEachSide() {
        TowerShades game = new TowerShades();
        int[][] froms = {{15, 16, 17}, {20, 26, 32}, {13, 12}, {8, 2}};
        for (int side = 0; side < 4; side++) {
            game.hour(3 * side);
            for (int from = 0; from < 36; from++) {
                int due = TowerShades.NONE;
                for (int i = 0; i < froms[side].length; i++) {
                    due = froms[side][i] == from ? i + 2 : due;
                }
                Due.same("needed from " + from + " to 14 at the side " + side, game.needed(from, 14), due);
            }
        }
    }

    private static void darkestIsTheEarliest() {
        Due.same("no dark square", new TowerShades().darkestHour(), 0);
        TowerShades game = Due.game("f1+9");
        Due.same("5 at the hour 3 toward the south and at 0 none, at 6 5", game.darkestHour(), 3);
        game.hour(7);
        Due.same("whatever the hour is", game.darkestHour(), 3);
        Due.same("south at most", Due.game("a1+9").darkestHour(), 6);
        Due.same("north at most", Due.game("a1+9;a2+9").darkestHour(), 9);
        Due.same("by a low tower all hours of a side are alike but for 1", Due.game("a6+2").darkestHour(), 0);
    }

    private static void shares() {
        TowerShades game = new TowerShades();
        Due.same("none", game.darkShare(), 0.0);
        String[] rows = {"a6+9", "b6+9", "c6+9", "d6+9", "e6+9", "f6+9"};
        for (int row = 0; row < 6; row++) {
            Due.write(game, rows[row]);
            game.load();
            Due.same("share of " + row, game.darkShare(), (row + 1) * 5 / 36.0);
        }
        game.hour(6);
        Due.same("in the morning", game.darkShare(), 0.0);
    }

    /** The digest as the document tells it, made from the answers of the other calls. */
    private static long toldDigest(TowerShades game, boolean kept0, boolean kept1, String buffer) {
        long hash = 3631;
        for (int what = 0; what < 10; what++) {
            hash = 31 * hash + game.count(what);
        }
        for (int square = 0; square < 36; square++) {
            for (int what = 0; what < 8; what++) {
                hash = 31 * hash + game.squareOf(square, what);
            }
            hash = 31 * hash + game.whyNot(square);
            hash = 31 * hash + game.ifRaised(square);
        }
        for (int player = 0; player < 2; player++) {
            for (int what = 0; what < 6; what++) {
                hash = 31 * hash + game.playerOf(player, what);
            }
        }
        hash = 31 * hash + game.bestSquare();
        int[][] pairs = {{0, 5}, {5, 0}, {30, 0}, {0, 30}};
        for (int[] pair : pairs) {
            hash = 31 * hash + game.needed(pair[0], pair[1]);
        }
        hash = 31 * hash + game.darkestHour();
        hash = 31 * hash + Double.doubleToLongBits(game.darkShare());
        hash = 31 * hash + (kept0 ? 1 : 0);
        hash = 31 * hash + (kept1 ? 1 : 0);
        hash = 31 * hash + buffer.length();
        for (char code : buffer.toCharArray()) {
            hash = 31 * hash + code;
        }
        return hash;
    }

    /** Row by row and height by height, so that each number of dark squares from 0 to 30 is met. */
    private static void digestsOfGames() {
        TowerShades game = new TowerShades();
        boolean[] met = new boolean[37];
        for (char row = 'a'; row <= 'f'; row++) {
            for (char height = '1'; height <= '6'; height++) {
                Due.write(game, row + "6+" + height);
                game.load();
                met[game.count(5)] = true;
                Due.same("digest at " + row + height, game.digest(), toldDigest(game, false, false, ""));
            }
        }
        for (int dark = 0; dark <= 30; dark++) {
            Due.same("met " + dark, met[dark] ? 1 : 0, 1);
        }
        game.keep(1);
        Due.same("digest with slot 1", game.digest(), toldDigest(game, false, true, ""));
        Due.write(game, "a1~!");
        Due.same("digest with a buffer", game.digest(), toldDigest(game, false, true, "a1~!"));
        game.keep(0);
        game.hour(3);
        Due.same("digest at the hour 3", game.digest(), toldDigest(game, true, true, "a1~!"));
        game.raise(33);
        game.raise(33);
        game.hour(10);
        game.clearBuffer();
        Due.same("digest behind turns", game.digest(), toldDigest(game, true, true, ""));
    }

    /** At each hour, so that each of the needed heights is one at some hour, and the darkest hour is not 0. */
    private static void digestsByHour() {
        TowerShades game = Due.game("c3+9;c4+9;b1-7;f4+2");
        Due.same("the darkest hour", game.darkestHour(), 9);
        for (int hour = 0; hour < 12; hour++) {
            game.hour(hour);
            Due.same("digest at the hour " + hour, game.digest(), toldDigest(game, false, false, ""));
        }
    }

    /** Each new object has the same digest, and what changes the state changes it. */
    private static void firstDigests() {
        TowerShades game = new TowerShades();
        long first = game.digest();
        Due.same("digest of another one", new TowerShades().digest(), first);
        Due.same("digest as told", first, toldDigest(game, false, false, ""));
        game.rest();
        Due.same("another digest behind a turn", game.digest() == first ? 1 : 0, 0);
        game.undo();
        Due.same("the digest behind undo", game.digest(), first);
    }

    private static void nothingIsChanged() {
        TowerShades game = Due.game("a6+2;a6=4;a5-1;a5=7;c3+8");
        Due.write(game, "b2");
        long before = game.digest();
        for (int square = 0; square < 36; square++) {
            game.whyNot(square);
            game.ifRaised(square);
            game.needed(square, 14);
            Due.same("the digest behind " + square, game.digest(), before);
        }
        game.bestSquare();
        game.darkestHour();
        game.darkShare();
        Due.same("the digest behind all", game.digest(), before);
        Due.same("the buffer", game.clearBuffer(), 2);
        Due.same("saved", game.count(9), 1);
    }
}
