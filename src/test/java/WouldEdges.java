/** The promises 17 to 23 (whyNot, ifRaised, bestSquare, needed, darkestHour, darkShare, digest), clause by clause. */
final class WouldEdges {
    private WouldEdges() {
    }

    static void list() {
        EdgesTest.edge("Exceptions", "---- what would be; nothing is changed", WouldEdges::nothingIsChanged);
        whyAndIf();
        bestAndNeeded();
        darkness();
        hash();
    }

    private static void whyAndIf() {
        EdgesTest.edge("Promise 17", "Tells why a tower cannot be raised", WouldEdges::whyNotOfRaise);
        EdgesTest.edge("Promise 17", "`square`: 0 to 35", WouldEdges::whyNotOfEachSquare);
        EdgesTest.edge("Promise 17", "Returns the reason for which raise() would be refused", WouldEdges::reasons);
        EdgesTest.edge("Promise 17", "0 if it would not", WouldEdges::noReason);
        EdgesTest.edge("Promise 17", "Throws `IndexOutOfBoundsException` if there is no such square",
                () -> Due.noSquare("whyNot", Due.rich()::whyNot));
        EdgesTest.edge("Promise 18", "Tells what raising would bring", WouldEdges::ifRaisedIsWhatRaiseBrings);
        EdgesTest.edge("Promise 18", "`square`: 0 to 35", WouldEdges::ifRaisedOfEachSquare);
        EdgesTest.edge("Promise 18", "Returns what the player whose turn it is would be paid behind it, less what the "
                + "other one would be paid", WouldEdges::paidLessPaid);
        EdgesTest.edge("Promise 18", "-999 if it would be refused", WouldEdges::refusedIsWorthMinus999);
        EdgesTest.edge("Promise 18", "Throws `IndexOutOfBoundsException` if there is no such square",
                () -> Due.noSquare("ifRaised", Due.rich()::ifRaised));
    }

    private static void bestAndNeeded() {
        EdgesTest.edge("Promise 19", "Finds the best square.", WouldEdges::noOtherIsBetter);
        EdgesTest.edge("Promise 19", "Returns the square for which ifRaised() is the greatest",
                WouldEdges::greatestIsBest);
        EdgesTest.edge("Promise 19", "of several the lowest", WouldEdges::lowestOfSeveral);
        EdgesTest.edge("Promise 19", "NONE if all would be refused", WouldEdges::noneIsBest);
        EdgesTest.edge("Promise 20", "Tells how high a tower would have to be to shade a square now",
                WouldEdges::neededShades);
        EdgesTest.edge("Promise 20", "`from`: 0 to 35: where it would stand", WouldEdges::neededFromEachSquare);
        EdgesTest.edge("Promise 20", "`square`: 0 to 35", WouldEdges::neededToEachSquare);
        EdgesTest.edge("Promise 20", "Returns the least height, 1 to 9", WouldEdges::leastHeights);
        EdgesTest.edge("Promise 20", "NONE if none would do", WouldEdges::noHeightWouldDo);
        EdgesTest.edge("Promise 20", "or from does not lie toward the sun from the square", WouldEdges::notTowardTheSun);
        EdgesTest.edge("Promise 20", "Throws `IndexOutOfBoundsException` if there is no such square",
                WouldEdges::neededOfNoSquare);
    }

    private static void darkness() {
        EdgesTest.edge("Promise 21", "Finds the hour with the most dark squares", WouldEdges::darkestOfEachSide);
        EdgesTest.edge("Promise 21", "of several the earliest", WouldEdges::earliestOfSeveral);
        EdgesTest.edge("Promise 21", "counted from 0", WouldEdges::countedFrom0);
        EdgesTest.edge("Promise 22", "Returns how much of the field is dark", WouldEdges::noneAndMostIsDark);
        EdgesTest.edge("Promise 22", "Returns the dark squares now as a double, divided by 36", WouldEdges::eachShare);
    }

    private static void hash() {
        EdgesTest.edge("Promise 23", "Computes a hash of the whole state", WouldEdges::allThatIsToldIsHashed);
        EdgesTest.edge("Promise 23", "The hash starts at 3631", WouldEdges::hashOfANewObject);
        EdgesTest.edge("Promise 23", "For each value v of the following list, in order, the hash becomes 31 * hash + v, in "
                + "long arithmetic with overflow", WouldEdges::hashesOfGames);
        EdgesTest.edge("Promise 23", "count(0) to count(9); for each square its numbers 0 to 7, whyNot and ifRaised; "
                + "for each player the numbers 0 to 5; bestSquare", WouldEdges::hashesByHour);
        EdgesTest.edge("Promise 23", "needed from 0 to 5, from 5 to 0, from 30 to 0 and from 0 to 30; darkestHour",
                WouldEdges::hashesOfCorners);
        EdgesTest.edge("Promise 23", "the bits of darkShare (as Double.doubleToLongBits)", WouldEdges::hashesOfShares);
        EdgesTest.edge("Promise 23", "for each slot 1 if it has a snapshot, otherwise 0", WouldEdges::hashesOfSlots);
        EdgesTest.edge("Promise 23", "the length of the buffer and each of its character codes",
                WouldEdges::hashesOfBuffers);
        EdgesTest.edge("Promise 23", "Returns the hash.", WouldEdges::sameStateSameHash);
    }

    private static void nothingIsChanged() {
        TowerShades game = Due.rich();
        for (int square = 0; square < 36; square++) {
            game.whyNot(square);
            game.ifRaised(square);
            game.needed(square, 14);
        }
        game.bestSquare();
        game.darkestHour();
        game.darkShare();
        game.digest();
        Due.alike("all behind what would be", game, Due.rich());
    }

    private static void whyNotOfRaise() {
        String text = "a1-9;a6+9;b6-1;c6+8;d6-9;d5+9;e1+1;e2-3";
        for (int square = 0; square < 36; square++) {
            TowerShades game = Due.game(text);
            int why = game.whyNot(square);
            int raised = game.raise(square);
            Due.same("whyNot(" + square + ")", why, raised > 10 ? 0 : raised);
        }
    }

    private static void whyNotOfEachSquare() {
        TowerShades game = new TowerShades();
        for (int square = 0; square < 36; square++) {
            Due.same("whyNot(" + square + ") on a new field", game.whyNot(square), 0);
        }
    }

    private static void reasons() {
        TowerShades game = Due.game("a1-1;b1+9;c6+9;c1-1;d1-9;e1+1;e6-9");
        Due.same("the other one's", game.whyNot(0), 1);
        Due.same("its own, 9", game.whyNot(6), 2);
        Due.same("the other one's, dark", game.whyNot(12), 1);
        Due.same("dark without a tower", game.whyNot(13), 3);
        Due.same("the other one's, 9", game.whyNot(18), 1);
        Due.same("its own, dark", game.whyNot(24), 3);
        game.rest();
        game.hour(0);
        Due.same("its own for the player 1", game.whyNot(0), 0);
        Due.same("the other one's for the player 1", game.whyNot(6), 1);
        Due.same("its own, dark, for the player 1", game.whyNot(12), 3);
        Due.same("its own, 9, for the player 1", game.whyNot(18), 2);
    }

    private static void noReason() {
        TowerShades game = Due.game("a1+8;b1+1;b2+2;c6+5");
        Due.same("its own, 8", game.whyNot(0), 0);
        Due.same("2 - 1 is not above 1", game.whyNot(6), 0);
        Due.same("no tower, 5 - 5", game.whyNot(12), 0);
        Due.same("no tower, lit", game.whyNot(35), 0);
        Due.same("no tower, toward the sun", game.whyNot(5), 0);
    }

    private static void ifRaisedIsWhatRaiseBrings() {
        String text = "a1-9;a6+2;a6=4;a5-1;a5=7;c6+8;d6-9;d5+9;e2=0;f1-3;f1=9";
        for (int turn = 0; turn < 2; turn++) {
            for (int square = 0; square < 36; square++) {
                TowerShades game = Due.game(text);
                for (int rests = 0; rests < turn; rests++) {
                    game.rest();
                }
                int worth = game.ifRaised(square);
                int[] scores = {game.playerOf(0, 0), game.playerOf(1, 0)};
                int raised = game.raise(square);
                int brought = game.playerOf(turn, 0) - scores[turn] - game.playerOf(1 - turn, 0) + scores[1 - turn];
                Due.same("ifRaised(" + square + ") of " + turn, worth, raised > 10 ? brought : -999);
            }
        }
    }

    private static void ifRaisedOfEachSquare() {
        TowerShades game = new TowerShades();
        for (int square = 0; square < 36; square++) {
            Due.same("ifRaised(" + square + ") on a new field", game.ifRaised(square), 1);
        }
    }

    private static void paidLessPaid() {
        TowerShades game = Due.game("a6+2;a6=4;a5-1;a5=7;b1=9;b2=0");
        Due.same("to darken a5", game.ifRaised(5), 4);
        Due.same("to build on a crowd of 9", game.ifRaised(6), 9 + 4 - 7);
        Due.same("to build on a crowd of 0", game.ifRaised(7), 0 + 4 - 7);
        game.rest();
        Due.same("for the player 1", game.ifRaised(6), 9 + 7 - 4);
        Due.same("below 0", Due.game("a1-1;a1=9;a2=0").ifRaised(1), -9);
        Due.same("to raise by 1 alone: 2 - 1 is not above 1", Due.game("a6+1;a6=4;a5-1;a5=7").ifRaised(5), 4 - 7);
        TowerShades own = Due.game("a6+2;a6=4;a5+1;a5=7");
        Due.same("to darken an own one", own.ifRaised(5), 4);
        Due.same("to leave it in the light", own.ifRaised(4), 11);
    }

    private static void refusedIsWorthMinus999() {
        TowerShades game = Due.game("a1-1;b1+9;c6+9;d1+1;d6-9");
        int[] refused = {0, 6, 12, 18};
        for (int square : refused) {
            Due.same("ifRaised(" + square + ")", game.ifRaised(square), -999);
        }
        Due.same("refused is not counted", game.count(8), 0);
    }

    private static void noOtherIsBetter() {
        String[] texts = {"a1+1", "a6+2;a6=4;a5-1;a5=7", "c3-5;c3=9;d4+9;d4=8;a1=0", "f6+8;f6=9;e6-1;e6=9;b2+3", "a1+9;f6-9"};
        for (String text : texts) {
            for (int hour = 0; hour < 12; hour++) {
                TowerShades game = Due.game(text, hour);
                int best = game.bestSquare();
                int worth = game.ifRaised(best);
                for (int square = 0; square < 36; square++) {
                    int other = game.ifRaised(square);
                    Due.same(square + " is better than " + best, other > worth || other == worth && square < best ? 1 : 0, 0);
                }
                Due.same("raise(" + best + ") is not refused", game.raise(best) > 10 ? 1 : 0, 1);
            }
        }
    }

    private static void greatestIsBest() {
        TowerShades game = Due.game("a2=2;f6=9;c3=8");
        Due.same("the last square", game.bestSquare(), 35);
        game.crowd(35, 1);
        Due.same("the one in the middle", game.bestSquare(), 14);
        game.crowd(14, 1);
        game.crowd(1, 1);
        game.crowd(0, 2);
        Due.same("the first square", game.bestSquare(), 0);
        TowerShades darken = Due.game("a6+2;a5-1;a5=9;f1=8");
        Due.same("to darken 9 is better than to be paid 8", darken.bestSquare(), 5);
        TowerShades loss = Due.game("a1-1;a1=9;a2=0;a3=0;b1=2");
        Due.same("the least loss", loss.bestSquare(), 6);
        Due.same("the loss", loss.ifRaised(6), 2 - 9);
    }

    private static void lowestOfSeveral() {
        TowerShades game = new TowerShades();
        Due.same("of 36", game.bestSquare(), 0);
        game.crowd(20, 5);
        game.crowd(27, 5);
        Due.same("of 20 and 27", game.bestSquare(), 20);
        Due.same("of all but those that are refused", Due.game("a1-1;a2-1;a3-1").bestSquare(), 3);
    }

    private static void noneIsBest() {
        TowerShades game = new TowerShades();
        for (char row = 'a'; row <= 'f'; row++) {
            Due.write(game, row + "1-9;" + row + "2-9;" + row + "3-9;" + row + "4-9;" + row + "5-9;" + row + "6-9");
            game.load();
        }
        Due.same("all are the other one's", game.bestSquare(), TowerShades.NONE);
        game.rest();
        Due.same("all are 9", game.bestSquare(), TowerShades.NONE);
        game.hour(0);
        game.tear(0);
        Due.same("a1 is dark, the others are 9", game.bestSquare(), TowerShades.NONE);
        game.hour(6);
        Due.same("a1 is lit", game.bestSquare(), 0);
    }

    /** A tower of the height that is needed shades the square, a lower one does not. */
    private static void neededShades() {
        int[][] pairs = {{5, 0}, {3, 2}, {30, 0}, {20, 14}, {12, 14}, {0, 30}, {5, 35}, {31, 33}, {8, 14}};
        for (int[] pair : pairs) {
            for (int hour = 0; hour < 12; hour++) {
                TowerShades game = Due.game("a1+2;a3-4;c3+3;f6-1");
                game.tear(pair[0]);
                game.hour(hour);
                int needed = game.needed(pair[0], pair[1]);
                int before = game.squareOf(pair[1], 5);
                for (int height = 1; height <= 9; height++) {
                    Due.write(game, "" + (char) ('a' + pair[0] / 6) + (char) ('1' + pair[0] % 6) + "-" + height);
                    game.load();
                    int due = before + (needed != TowerShades.NONE && height >= needed ? 1 : 0);
                    Due.same(height + " on " + pair[0] + " at the hour " + hour, game.squareOf(pair[1], 5), due);
                }
            }
        }
    }

    private static void neededFromEachSquare() {
        TowerShades game = new TowerShades();
        for (int from = 0; from < 36; from++) {
            int due = from % 6 == 0 ? TowerShades.NONE : 2;
            Due.same("needed(" + from + ", " + (from + 35) % 36 + ")", game.needed(from, (from + 35) % 36), due);
        }
    }

    private static void neededToEachSquare() {
        TowerShades game = new TowerShades();
        game.hour(6);
        for (int square = 0; square < 36; square++) {
            int due = square % 6 == 0 ? TowerShades.NONE : 2;
            Due.same("needed(" + (square + 35) % 36 + ", " + square + ")", game.needed((square + 35) % 36, square), due);
        }
    }

    private static void leastHeights() {
        TowerShades game = Due.game("a1+7;b1+4;c1-6;c2-3");
        Due.same("7 and 1", game.needed(1, 0), 9);
        Due.same("4 and 4", game.needed(10, 6), 9);
        Due.same("6 and 1, whatever stands there", game.needed(13, 12), 8);
        Due.same("0 and 1", game.needed(19, 18), 2);
        Due.same("0 and 5", game.needed(23, 18), 6);
        game.hour(1);
        Due.same("0 and 3", game.needed(19, 18), 4);
        Due.same("0 and 6", game.needed(20, 18), 7);
        game.hour(2);
        Due.same("0 and 8", game.needed(22, 18), 9);
    }

    private static void noHeightWouldDo() {
        TowerShades game = Due.game("a1+8;b1+4;c1-9");
        Due.same("8 and 1: 10", game.needed(1, 0), TowerShades.NONE);
        Due.same("4 and 5: 10", game.needed(11, 6), TowerShades.NONE);
        Due.same("9 and 1: 11", game.needed(13, 12), TowerShades.NONE);
        game.hour(1);
        Due.same("0 and 9: 10", game.needed(21, 18), TowerShades.NONE);
        game.hour(2);
        Due.same("0 and 10: 11", game.needed(23, 18), TowerShades.NONE);
    }

    private static void notTowardTheSun() {
        int[][] toward = {{15, 16, 17}, {20, 26, 32}, {13, 12}, {8, 2}};
        for (int side = 0; side < 4; side++) {
            TowerShades game = new TowerShades();
            game.hour(3 * side);
            for (int from = 0; from < 36; from++) {
                int due = TowerShades.NONE;
                for (int i = 0; i < toward[side].length; i++) {
                    due = toward[side][i] == from ? i + 2 : due;
                }
                Due.same("needed(" + from + ", 14) at the side " + side, game.needed(from, 14), due);
            }
            Due.same("the square itself", game.needed(35, 35), TowerShades.NONE);
        }
        Due.same("the next row is not the same one", new TowerShades().needed(6, 5), TowerShades.NONE);
    }

    private static void neededOfNoSquare() {
        TowerShades game = Due.rich();
        Due.noSquare("needed from", from -> game.needed(from, 0));
        Due.noSquare("needed to", square -> game.needed(35, square));
        Due.noSquare("needed from and to", square -> game.needed(square, square));
    }

    private static void darkestOfEachSide() {
        Due.same("in the east", Due.game("a6+9;f6+9").darkestHour(), 0);
        Due.same("in the south", Due.game("f1+9;f2-9").darkestHour(), 3);
        Due.same("in the west", Due.game("a1+9;b1-9").darkestHour(), 6);
        TowerShades game = Due.game("a1+9;a2-9;a3+9");
        Due.same("in the north", game.darkestHour(), 9);
        game.hour(5);
        Due.same("in the north, whatever the hour is", game.darkestHour(), 9);
    }

    private static void earliestOfSeveral() {
        Due.same("the hours 0 and 3", Due.game("f6+9").darkestHour(), 0);
        Due.same("the hours 3 and 6", Due.game("f1+9").darkestHour(), 3);
        Due.same("the hours 6 and 9", Due.game("a1+9").darkestHour(), 6);
        Due.same("the hours 0 and 9", Due.game("a6+9").darkestHour(), 0);
        Due.same("three hours of each side", Due.game("c3+9;c2-9;b3+9;c4+9;d3+9").darkestHour() % 3, 0);
    }

    private static void countedFrom0() {
        Due.same("without a dark square", new TowerShades().darkestHour(), 0);
        TowerShades low = Due.game("c3+1");
        low.hour(11);
        Due.same("without a dark square at the hour 11", low.darkestHour(), 0);
    }

    private static void noneAndMostIsDark() {
        TowerShades game = new TowerShades();
        Due.same("none", game.darkShare(), 0.0);
        for (char row = 'a'; row <= 'f'; row++) {
            Due.write(game, row + "6+9");
            game.load();
        }
        Due.same("all but one column", game.darkShare(), 30.0 / 36.0);
        game.hour(6);
        Due.same("none in the west", game.darkShare(), 0.0);
    }

    private static void eachShare() {
        for (int dark = 0; dark <= 30; dark++) {
            TowerShades game = withDark(dark);
            Due.same("dark squares", game.count(5), dark);
            Due.same("the bits of the share of " + dark, Double.doubleToLongBits(game.darkShare()),
                    Double.doubleToLongBits(dark / 36.0));
        }
    }

    /** A field with so many dark squares, five in a row at most. */
    private static TowerShades withDark(int dark) {
        TowerShades game = new TowerShades();
        for (int row = 0; row < 6; row++) {
            int here = Math.max(0, Math.min(5, dark - 5 * row));
            Due.write(game, "" + (char) ('a' + row) + "6-" + (here + 1));
            game.load();
        }
        return game;
    }

    /** The hash as the document tells it, of the answers of the other calls: some 390 calls, so once for a game. */
    private static void hashed(String call, TowerShades game, boolean kept0, boolean kept1, String buffer) {
        long got = game.digest();
        long hash = 3631;
        for (int what = 0; what <= 9; what++) {
            hash = 31 * hash + game.count(what);
        }
        for (int square = 0; square < 36; square++) {
            for (int what = 0; what <= 7; what++) {
                hash = 31 * hash + game.squareOf(square, what);
            }
            hash = 31 * hash + game.whyNot(square);
            hash = 31 * hash + game.ifRaised(square);
        }
        for (int player = 0; player < 2; player++) {
            for (int what = 0; what <= 5; what++) {
                hash = 31 * hash + game.playerOf(player, what);
            }
        }
        hash = 31 * hash + game.bestSquare();
        int[][] pairs = {{0, 5}, {5, 0}, {30, 0}, {0, 30}};
        for (int[] pair : pairs) {
            hash = 31 * hash + game.needed(pair[0], pair[1]);
        }
        hash = 31 * hash + game.darkestHour();
        hash = 31 * hash + Double.doubleToLongBits(game.darkShare());
        hash = 31 * hash + (kept0 ? 1 : 0);
        hash = 31 * hash + (kept1 ? 1 : 0);
        hash = 31 * hash + buffer.length();
        for (int i = 0; i < buffer.length(); i++) {
            hash = 31 * hash + buffer.charAt(i);
        }
        Due.same(call, got, hash);
    }

    /** What can be told of one state changes the hash: each of these differs from all others. */
    private static void allThatIsToldIsHashed() {
        long[] hashes = new long[10];
        for (int i = 0; i < hashes.length; i++) {
            TowerShades game = Due.game("a6+2;a5-1");
            switch (i) {
                case 1 -> game.rest();
                case 2 -> game.crowd(35, 0);
                case 3 -> game.tear(4);
                case 4 -> game.hour(9);
                case 5 -> game.keep(0);
                case 6 -> game.keep(1);
                case 7 -> game.append('a');
                case 8 -> game.raise(4);
                case 9 -> game.undo();
                default -> { }
            }
            hashes[i] = game.digest();
            for (int other = 0; other < i; other++) {
                Due.same("the hashes " + other + " and " + i + " are alike", hashes[other] == hashes[i] ? 1 : 0, 0);
            }
        }
    }

    private static void hashOfANewObject() {
        hashed("digest() of a new object", new TowerShades(), false, false, "");
    }

    private static void hashesOfGames() {
        hashed("digest() of a rich game", Due.rich(), true, true, "b3+");
        hashed("digest() of another one", Due.noSlots(), false, false, "b3");
        TowerShades full = new TowerShades();
        for (char row = 'a'; row <= 'f'; row++) {
            Due.write(full, row + "1-9;" + row + "3-9;" + row + "5+9");
            full.load();
        }
        hashed("digest() of many towers", full, false, false, "");
    }

    private static void hashesByHour() {
        for (int hour = 0; hour < 12; hour++) {
            hashed("digest() at the hour " + hour, Due.game("c3+9;c4+9;b1-7;f4+2;b5=0", hour), false, false, "");
        }
    }

    /** At each side another one of the four is a height, and the others are NONE. */
    private static void hashesOfCorners() {
        for (int side = 0; side < 4; side++) {
            hashed("digest() at the side " + side, Due.game("a1+1;a6-2;f1+3", 3 * side), false, false, "");
        }
        hashed("digest() with the darkest hour 9", Due.game("a2+9;a3-9"), false, false, "");
    }

    private static void hashesOfShares() {
        for (int dark = 0; dark <= 30; dark++) {
            hashed("digest() of " + dark + " dark squares", withDark(dark), false, false, "");
        }
    }

    private static void hashesOfSlots() {
        for (int kept = 0; kept < 4; kept++) {
            TowerShades game = Due.game("b2+3");
            for (int slot = 0; slot < 2; slot++) {
                if ((kept >> slot & 1) == 1) {
                    game.keep(slot);
                }
            }
            hashed("digest() with the slots " + kept, game, (kept & 1) == 1, (kept & 2) == 2, "");
        }
    }

    private static void hashesOfBuffers() {
        String[] buffers = {"", "!", "~", "a1+1;", "~!~!a1=0"};
        for (String buffer : buffers) {
            TowerShades game = new TowerShades();
            Due.write(game, buffer);
            hashed("digest() with " + buffer, game, false, false, buffer);
        }
        TowerShades full = new TowerShades();
        StringBuilder text = new StringBuilder();
        for (int code = 126; code > 66; code--) {
            text.append((char) code);
            full.append(code);
        }
        hashed("digest() with a full buffer", full, false, false, text.toString());
        TowerShades cleared = new TowerShades();
        Due.write(cleared, "xyz");
        cleared.clearBuffer();
        hashed("digest() with a cleared buffer", cleared, false, false, "");
    }

    private static void sameStateSameHash() {
        TowerShades game = new TowerShades();
        long first = game.digest();
        Due.same("digest() again", game.digest(), first);
        Due.same("digest() of another object", new TowerShades().digest(), first);
        game.raise(0);
        game.undo();
        Due.same("digest() behind undo", game.digest(), first);
    }
}
