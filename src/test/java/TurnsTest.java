/** Promises 1 to 6: a new object, raise, rest, crowd, tear, hour. */
public final class TurnsTest {
    public static void main(String[] args) {
        newObject();
        raiseBuilds();
        raiseIsRefused();
        raiseRefusesForTheFirstReason();
        restPays();
        turnsPayBoth();
        hoursGoRound();
        crowdChanges();
        tearTearsDown();
        hourIsSet();
        Due.finish();
    }

    private static void newObject() {
        TowerShades game = new TowerShades();
        for (int square = 0; square < 36; square++) {
            Due.same("height of " + square, game.squareOf(square, 0), 0);
            Due.same("owner of " + square, game.squareOf(square, 1), TowerShades.NONE);
            Due.same("crowd of " + square, game.squareOf(square, 2), 1);
        }
        int[] counts = {0, 0, 1, 0, 0, 0, 0, 36, 0, 0};
        for (int what = 0; what < counts.length; what++) {
            Due.same("count(" + what + ") at first", game.count(what), counts[what]);
        }
        Due.same("NONE", TowerShades.NONE, -1);
        Due.same("the buffer is empty", game.clearBuffer(), 0);
        Due.state("goBack(0) at first", () -> game.goBack(0));
        Due.state("goBack(1) at first", () -> game.goBack(1));
        Due.state("undo() at first", () -> game.undo());
    }

    private static void raiseBuilds() {
        TowerShades game = new TowerShades();
        Due.same("raise(5)", game.raise(5), 11);
        Due.same("owner", game.squareOf(5, 1), 0);
        Due.same("turn", game.count(3), 1);
        Due.same("hour", game.count(0), 1);
        Due.same("turns", game.count(4), 1);
        Due.same("score of 0", game.playerOf(0, 0), 1);
        Due.same("raise(35)", game.raise(35), 11);
        Due.same("owner", game.squareOf(35, 1), 1);
        Due.same("turn", game.count(3), 0);
        Due.same("score of 0", game.playerOf(0, 0), 2);
        Due.same("score of 1", game.playerOf(1, 0), 1);
        Due.same("raise(5) again", game.raise(5), 12);
        Due.same("height", game.squareOf(5, 0), 2);
        Due.same("saved", game.count(9), 3);
        Due.same("undo", game.undo(), 2);
        Due.same("height then", game.squareOf(5, 0), 1);
        Due.index("raise(-1)", () -> game.raise(-1));
        Due.index("raise(36)", () -> game.raise(36));
        Due.index("raise(MIN)", () -> game.raise(Integer.MIN_VALUE));
        Due.index("raise(MAX)", () -> game.raise(Integer.MAX_VALUE));
        Due.same("saved by none of these", game.count(9), 2);
    }

    private static void raiseIsRefused() {
        TowerShades game = Due.game("a1-1;b1+9;c1+8;d6+3");
        Due.same("the other one's", game.raise(0), 1);
        Due.same("height 9", game.raise(6), 2);
        Due.same("dark without a tower", game.raise(22), 3);
        Due.same("no tower is built", game.squareOf(22, 1), TowerShades.NONE);
        Due.same("no turn", game.count(4), 0);
        Due.same("player 0 still", game.count(3), 0);
        Due.same("hour still", game.count(0), 0);
        Due.same("no pay", game.playerOf(0, 0), 0);
        Due.same("refused", game.count(8), 3);
        Due.same("saved, load too", game.count(9), 4);
        Due.same("undo", game.undo(), 3);
        Due.same("refused then", game.count(8), 2);
        Due.same("8 to 9", game.raise(12), 19);
        Due.same("player 1 on a 0's tower", game.raise(12), 1);
    }

    private static void raiseRefusesForTheFirstReason() {
        TowerShades game = Due.game("a1-9;a2+9;b1-1;b2+9;c1+1;c2+9;d1+1;d2-9");
        Due.same("other's, 9, lit", game.whyNot(0), 1);
        Due.same("other's and dark", game.raise(6), 1);
        Due.same("own and dark", game.raise(12), 3);
        Due.same("own and dark by the other's", game.raise(18), 3);
        Due.same("own, 9, lit", game.raise(7), 2);
    }

    private static void restPays() {
        TowerShades game = Due.game("a1+3;a1=7;b2+1;b2=9;c3-2;c3=4;d4-1;d5+9");
        Due.same("rest of 0", game.rest(), 7 + 9 + 1);
        Due.same("score of 0", game.playerOf(0, 0), 17);
        Due.same("score of 1: d4 is dark", game.playerOf(1, 0), 4);
        Due.same("rest of 1 at the hour 1", game.rest(), 4);
        Due.same("turns", game.count(4), 2);
        Due.same("hour", game.count(0), 2);
        Due.same("turn", game.count(3), 0);
        Due.same("saved", game.count(9), 3);
        game.undo();
        Due.same("turns then", game.count(4), 1);
        Due.same("score of 1 then", game.playerOf(1, 0), 4);
    }

    private static void turnsPayBoth() {
        TowerShades game = Due.game("a6+1;a6=5;a5-1;a5=3;f1-1;f1=2");
        game.raise(5);
        Due.same("score of 0", game.playerOf(0, 0), 5);
        Due.same("score of 1: 2 - 1 is not above 1", game.playerOf(1, 0), 5);
        game.hour(0);
        game.rest();
        game.hour(0);
        game.raise(5);
        Due.same("score of 0", game.playerOf(0, 0), 15);
        Due.same("score of 1: a5 is dark", game.playerOf(1, 0), 5 + 5 + 2);
    }

    private static void hoursGoRound() {
        TowerShades game = new TowerShades();
        int[] sides = {0, 0, 0, 1, 1, 1, 2, 2, 2, 3, 3, 3};
        int[] steeps = {1, 3, 2, 1, 3, 2, 1, 3, 2, 1, 3, 2};
        for (int turn = 0; turn < 26; turn++) {
            Due.same("hour at turn " + turn, game.count(0), turn % 12);
            Due.same("side at turn " + turn, game.count(1), sides[turn % 12]);
            Due.same("steepness at turn " + turn, game.count(2), steeps[turn % 12]);
            Due.same("player at turn " + turn, game.count(3), turn % 2);
            game.rest();
        }
    }

    private static void crowdChanges() {
        TowerShades game = Due.game("a1+4");
        Due.same("crowd(0, 9)", game.crowd(0, 9), 1);
        Due.same("crowd(0, 0)", game.crowd(0, 0), 9);
        Due.same("crowd(35, 5)", game.crowd(35, 5), 1);
        Due.same("crowd of 35", game.squareOf(35, 2), 5);
        Due.same("crowds", game.count(7), 36 - 1 + 4);
        Due.same("the tower stays", game.squareOf(0, 0), 4);
        Due.same("no turn", game.count(4), 0);
        Due.index("crowd(36, 0)", () -> game.crowd(36, 0));
        Due.index("crowd(-1, 0)", () -> game.crowd(-1, 0));
        Due.index("crowd(36, 10): the square first", () -> game.crowd(36, 10));
        Due.argument("crowd(0, 10)", () -> game.crowd(0, 10));
        Due.argument("crowd(0, -1)", () -> game.crowd(0, -1));
        Due.same("saved", game.count(9), 4);
        game.undo();
        Due.same("crowd of 35 then", game.squareOf(35, 2), 1);
        game.crowd(35, 1);
        Due.same("saved, also if nothing changes", game.count(9), 4);
    }

    private static void tearTearsDown() {
        TowerShades game = Due.game("a1+4;a1=6;f6-9");
        Due.same("tear(0)", game.tear(0), 4);
        Due.same("height", game.squareOf(0, 0), 0);
        Due.same("owner", game.squareOf(0, 1), TowerShades.NONE);
        Due.same("the crowd stays", game.squareOf(0, 2), 6);
        Due.same("tear(35), the other one's", game.tear(35), 9);
        Due.same("towers", game.count(6), 0);
        Due.same("tear(35) again", game.tear(35), 0);
        Due.same("no turn", game.count(4), 0);
        Due.same("saved", game.count(9), 4);
        Due.index("tear(36)", () -> game.tear(36));
        Due.index("tear(-1)", () -> game.tear(-1));
        Due.same("saved still", game.count(9), 4);
        game.undo();
        game.undo();
        Due.same("the tower is back", game.squareOf(35, 0), 9);
        Due.same("its owner too", game.squareOf(35, 1), 1);
    }

    private static void hourIsSet() {
        TowerShades game = new TowerShades();
        Due.same("hour(11)", game.hour(11), 0);
        Due.same("side", game.count(1), 3);
        Due.same("hour(4)", game.hour(4), 11);
        Due.same("side", game.count(1), 1);
        Due.same("steepness", game.count(2), 3);
        Due.same("no turn", game.count(4), 0);
        Due.same("player", game.count(3), 0);
        Due.argument("hour(12)", () -> game.hour(12));
        Due.argument("hour(-1)", () -> game.hour(-1));
        Due.same("saved", game.count(9), 2);
        game.undo();
        Due.same("hour then", game.count(0), 11);
        game.hour(11);
        Due.same("saved, also if nothing changes", game.count(9), 2);
    }
}
