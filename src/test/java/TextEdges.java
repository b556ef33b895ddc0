/** "Input text" and the promises 7 to 10 (append, clearBuffer, firstError, load), clause by clause. */
final class TextEdges {
    /** Of 59 characters: the longest field as a text that the buffer holds. */
    private static final String LONGEST = "a1+1;a2-2;a3+3;a4-4;a5+5;a6-6;b1+7;b2-8;b3+9;f1=0;f2=1;f3=9";
    private static final int[] NO_CODES = {32, 127, 0, -1, 10, 128, 255, 65536 + 'a', Integer.MIN_VALUE,
        Integer.MAX_VALUE};

    private TextEdges() {
    }

    static void list() {
        EdgesTest.edge("Input text", "The buffer has at most 60 characters", TextEdges::atMost60);
        EdgesTest.edge("Input text", "A field as a text is one or more of these", TextEdges::oneOrMore);
        EdgesTest.edge("Input text", "with \";\" between them", TextEdges::partedBySemicolons);
        EdgesTest.edge("Input text", "a letter \"a\" to \"f\" for the row 0 to 5", TextEdges::letters);
        EdgesTest.edge("Input text", "a digit \"1\" to \"6\" for the column 0 to 5", TextEdges::columns);
        EdgesTest.edge("Input text", "then \"+\" for the player 0 or \"-\" for the player 1", TextEdges::marks);
        EdgesTest.edge("Input text", "the digit of a height, 1 to 9", TextEdges::heights);
        EdgesTest.edge("Input text", "or a letter, a digit, \"=\", and the digit of a crowd, 0 to 9", TextEdges::crowds);
        EdgesTest.edge("Input text", "The buffer is read from left to right", TextEdges::leftToRight);
        EdgesTest.edge("Input text", "a character is a syntax error if no field as a text, of any length, begins with the "
                + "characters before it and this character", TextEdges::beginningsAreNoErrors);
        EdgesTest.edge("Input text", "of any length", TextEdges::ofAnyLength);
        appendAndClear();
        errorAndLoad();
    }

    private static void appendAndClear() {
        EdgesTest.edge("Promise 7", "Appends a character to the buffer", TextEdges::appendAppends);
        EdgesTest.edge("Promise 7", "`code`: the character code, 33 to 126", TextEdges::eachCode);
        EdgesTest.edge("Promise 7", "Returns the new length of the buffer", TextEdges::appendReturnsTheLength);
        EdgesTest.edge("Promise 7", "Throws `IllegalArgumentException` if code is not 33 to 126", TextEdges::noCodes);
        EdgesTest.edge("Promise 7", "Throws `IllegalStateException` if the buffer has 60 characters",
                TextEdges::fullBuffer);
        EdgesTest.edge("Promise 8", "Clears the buffer", TextEdges::clearClears);
        EdgesTest.edge("Promise 8", "Returns the length that it had", TextEdges::clearReturnsTheLength);
    }

    private static void errorAndLoad() {
        EdgesTest.edge("Promise 9", "Finds the first syntax error of the buffer", TextEdges::firstOfSeveralErrors);
        EdgesTest.edge("Promise 9", "Returns the index of the first character that is a syntax error",
                TextEdges::indexOfTheError);
        EdgesTest.edge("Promise 9", "the length of the buffer if there is none", TextEdges::lengthWithoutAnError);
        EdgesTest.edge("Promise 10", "Puts the towers and crowds of the buffer onto the field", TextEdges::loadPuts);
        EdgesTest.edge("Promise 10", "one after the other", TextEdges::theLaterOneStays);
        EdgesTest.edge("Promise 10", "in place of what is on their squares", TextEdges::inPlaceOfWhatIsThere);
        EdgesTest.edge("Promise 10", "(all other squares stay)", TextEdges::otherSquaresStay);
        EdgesTest.edge("Promise 10", "and clears the buffer", TextEdges::loadClears);
        EdgesTest.edge("Promise 10", "Undoable", TextEdges::loadIsUndoable);
        EdgesTest.edge("Promise 10", "Returns how many towers there are then", TextEdges::loadReturnsTheTowers);
        EdgesTest.edge("Promise 10", "Throws `IllegalArgumentException` if the buffer does not tell a field as a text",
                TextEdges::noField);
    }

    private static TowerShades written(String text) {
        TowerShades game = new TowerShades();
        Due.write(game, text);
        return game;
    }

    /** Of the codes 33 to 126, only those may stand behind the characters before them. */
    private static void onlyThese(String before, String codes) {
        for (char code = 33; code <= 126; code++) {
            int due = codes.indexOf(code) >= 0 ? before.length() + 1 : before.length();
            Due.same("firstError of " + before + code, written(before + code).firstError(), due);
        }
    }

    private static void loads(String text, int square, int what, int due) {
        TowerShades game = written(text);
        game.load();
        Due.same(text + ": " + what + " of " + square, game.squareOf(square, what), due);
    }

    private static void isNoField(String text) {
        Due.argument("load of \"" + text + "\"", written(text)::load);
    }

    private static void atMost60() {
        TowerShades game = written(LONGEST);
        Due.same("the 60th character", game.append('z'), 60);
        Due.state("the 61st character", () -> game.append(';'));
        Due.same("the length", game.clearBuffer(), 60);
        Due.same("the first character behind that", game.append('z'), 1);
    }

    private static void oneOrMore() {
        isNoField("");
        Due.same("load of one", written("a1+1").load(), 1);
        Due.same("load of one crowd", written("a1=1").load(), 0);
        Due.same("load of two", written("a1+1;b1-2").load(), 2);
        Due.same("load of twelve", written(LONGEST).load(), 9);
    }

    private static void partedBySemicolons() {
        onlyThese("a1+1", ";");
        onlyThese("a1=0", ";");
        onlyThese("a1+1;b2-2", ";");
        isNoField("a1+1b2-2");
        isNoField("a1+1,b2-2");
        isNoField(";a1+1");
        isNoField("a1+1;");
        isNoField("a1+1;;b2-2");
    }

    private static void letters() {
        onlyThese("", "abcdef");
        onlyThese("a1+1;", "abcdef");
        for (int row = 0; row < 6; row++) {
            loads("abcdef".charAt(row) + "3+5", 6 * row + 2, 0, 5);
        }
        isNoField("g1+1");
        isNoField("`1+1");
        isNoField("A1+1");
    }

    private static void columns() {
        onlyThese("d", "123456");
        onlyThese("a1+1;f", "123456");
        for (int column = 0; column < 6; column++) {
            loads("c" + (char) ('1' + column) + "+5", 12 + column, 0, 5);
        }
        isNoField("a0+1");
        isNoField("a7+1");
    }

    private static void marks() {
        onlyThese("d6", "+-=");
        onlyThese("a1=0;d6", "+-=");
        loads("d6+3", 23, 1, 0);
        loads("d6-3", 23, 1, 1);
        isNoField("a1*1");
        isNoField("a11");
    }

    private static void heights() {
        onlyThese("d6+", "123456789");
        onlyThese("d6-", "123456789");
        for (int height = 1; height <= 9; height++) {
            loads("a1+" + height, 0, 0, height);
            loads("f6-" + height, 35, 0, height);
        }
        isNoField("a1+0");
        isNoField("a1-0");
        isNoField("a1+:");
        isNoField("a1-/");
        isNoField("a1+10");
    }

    private static void crowds() {
        onlyThese("d6=", "0123456789");
        for (int crowd = 0; crowd <= 9; crowd++) {
            loads("a1=" + crowd, 0, 2, crowd);
            loads("f6=" + crowd, 35, 2, crowd);
        }
        isNoField("a1=:");
        isNoField("a1=/");
        isNoField("a1=10");
    }

    /** What is right behind an error is none the less behind it. */
    private static void leftToRight() {
        Due.same("firstError of xa1+1", written("xa1+1").firstError(), 0);
        Due.same("firstError of a1+1x;b2-2", written("a1+1x;b2-2").firstError(), 4);
        TowerShades game = written("a1+1");
        game.append('+');
        Due.same("firstError of a1+1+", game.firstError(), 4);
        game.append(';');
        Due.same("firstError of a1+1+;", game.firstError(), 4);
    }

    private static void beginningsAreNoErrors() {
        for (int length = 0; length <= LONGEST.length(); length++) {
            String text = LONGEST.substring(0, length);
            Due.same("firstError of " + text, written(text).firstError(), length);
        }
    }

    /** Texts that the buffer does not hold begin so too: the ";" at its end is none too many. */
    private static void ofAnyLength() {
        TowerShades game = written(LONGEST + ";");
        Due.same("firstError of 60 characters", game.firstError(), 60);
        Due.argument("load of 60 characters", game::load);
        Due.same("firstError of 60 characters, the last one an error", written(LONGEST + "0").firstError(), 59);
    }

    private static void appendAppends() {
        TowerShades game = written("a1+1;b1-");
        game.append('7');
        Due.same("load()", game.load(), 2);
        Due.same("the height of b1", game.squareOf(6, 0), 7);
        Due.same("the length behind load and append", game.append('c'), 1);
        Due.same("saved: by load alone", game.count(9), 1);
    }

    private static void eachCode() {
        for (int code = 33; code <= 126; code++) {
            TowerShades game = new TowerShades();
            Due.same("append(" + code + ")", game.append(code), 1);
            Due.same("the digest ends with the code", game.digest() - written("!").digest(), code - 33);
        }
    }

    private static void appendReturnsTheLength() {
        TowerShades game = new TowerShades();
        for (int length = 1; length <= 60; length++) {
            Due.same("append", game.append(length % 2 == 0 ? 33 : 126), length);
        }
    }

    private static void noCodes() {
        TowerShades game = written("a");
        for (int code : NO_CODES) {
            Due.argument("append(" + code + ")", () -> game.append(code));
        }
        Due.same("the length", game.clearBuffer(), 1);
    }

    private static void fullBuffer() {
        TowerShades game = written(LONGEST);
        Due.same("append at 59", game.append('!'), 60);
        Due.state("append(33) at 60", () -> game.append(33));
        Due.state("append(126) at 60", () -> game.append(126));
        Due.same("the length", game.clearBuffer(), 60);
        Due.same("append behind clearBuffer", game.append(33), 1);
    }

    private static void clearClears() {
        TowerShades game = written("x1+1");
        game.clearBuffer();
        Due.same("firstError()", game.firstError(), 0);
        Due.write(game, "b1-2");
        Due.same("load behind it", game.load(), 1);
        Due.same("a1 has no tower", game.squareOf(0, 0), 0);
        Due.same("saved: by load alone", game.count(9), 1);
    }

    private static void clearReturnsTheLength() {
        TowerShades game = new TowerShades();
        Due.same("clearBuffer() of an empty one", game.clearBuffer(), 0);
        game.append('~');
        Due.same("clearBuffer() of one", game.clearBuffer(), 1);
        Due.same("clearBuffer() again", game.clearBuffer(), 0);
        Due.write(game, LONGEST + LONGEST.charAt(0));
        Due.same("clearBuffer() of a full one", game.clearBuffer(), 60);
    }

    private static void firstOfSeveralErrors() {
        Due.same("firstError of a1x1;y", written("a1x1;y").firstError(), 2);
        Due.same("firstError of !!!", written("!!!").firstError(), 0);
        TowerShades game = written("a7");
        game.firstError();
        Due.same("the buffer stays", game.clearBuffer(), 2);
        Due.same("nothing is saved", game.count(9), 0);
    }

    private static void indexOfTheError() {
        for (int index = 0; index < LONGEST.length(); index++) {
            String text = LONGEST.substring(0, index) + "!" + LONGEST.substring(index + 1);
            Due.same("firstError of " + text, written(text).firstError(), index);
        }
        Due.same("firstError of a 60th one", written(LONGEST + "!").firstError(), 59);
    }

    private static void lengthWithoutAnError() {
        Due.same("firstError of an empty buffer", new TowerShades().firstError(), 0);
        Due.same("firstError of a1+1", written("a1+1").firstError(), 4);
        Due.same("firstError of a1+", written("a1+").firstError(), 3);
        Due.same("firstError of 59 characters", written(LONGEST).firstError(), 59);
    }

    private static void loadPuts() {
        TowerShades game = written("a1+1;f6-9;c3=0;d4=9");
        game.load();
        int[][] due = {{0, 1, 0, 1}, {35, 9, 1, 1}, {14, 0, TowerShades.NONE, 0}, {21, 0, TowerShades.NONE, 9}};
        for (int[] square : due) {
            for (int what = 0; what < 3; what++) {
                Due.same(what + " of " + square[0], game.squareOf(square[0], what), square[what + 1]);
            }
        }
        Due.same("turns", game.count(4), 0);
        Due.same("the player", game.count(3), 0);
    }

    private static void theLaterOneStays() {
        TowerShades game = written("b1+3;b1-8;b1=4;b1=6;c1-8;c1+3");
        Due.same("load()", game.load(), 2);
        Due.same("the height of b1", game.squareOf(6, 0), 8);
        Due.same("the owner of b1", game.squareOf(6, 1), 1);
        Due.same("the crowd of b1", game.squareOf(6, 2), 6);
        Due.same("the height of c1", game.squareOf(12, 0), 3);
        Due.same("the owner of c1", game.squareOf(12, 1), 0);
    }

    /** A tower in place of a tower, a crowd in place of a crowd, also where the rules of turns would refuse it. */
    private static void inPlaceOfWhatIsThere() {
        TowerShades game = Due.game("a1-9;a1=7;b1+5;b1=2;c6+9;c1+1");
        Due.write(game, "a1+2;b1=9;c1+3");
        Due.same("load()", game.load(), 4);
        Due.same("a1's height", game.squareOf(0, 0), 2);
        Due.same("a1's owner", game.squareOf(0, 1), 0);
        Due.same("a1's crowd", game.squareOf(0, 2), 7);
        Due.same("b1's height", game.squareOf(6, 0), 5);
        Due.same("b1's crowd", game.squareOf(6, 2), 9);
        Due.same("c1's height, though it is dark", game.squareOf(12, 0), 3);
        Due.same("refused", game.count(8), 0);
    }

    private static void otherSquaresStay() {
        TowerShades game = Due.game("a1-9;a1=7;f6+5;f6=0");
        Due.write(game, "a2+1;f5=3");
        Due.same("load()", game.load(), 3);
        Due.same("a1's height", game.squareOf(0, 0), 9);
        Due.same("a1's owner", game.squareOf(0, 1), 1);
        Due.same("a1's crowd", game.squareOf(0, 2), 7);
        Due.same("f6's height", game.squareOf(35, 0), 5);
        Due.same("f6's crowd", game.squareOf(35, 2), 0);
        Due.same("crowds together", game.count(7), 33 + 7 + 0 + 3);
    }

    private static void loadClears() {
        TowerShades game = Due.game(LONGEST);
        Due.same("clearBuffer()", game.clearBuffer(), 0);
        Due.argument("load again", game::load);
        Due.same("append", game.append('a'), 1);
    }

    private static void loadIsUndoable() {
        TowerShades game = Due.noSlots();
        game.clearBuffer();
        Due.write(game, "a6-1;a1=9");
        game.load();
        Due.same("saved", game.count(9), 3);
        Due.same("undo()", game.undo(), 2);
        Due.same("undo leaves the buffer as load left it", game.clearBuffer(), 0);
        Due.write(game, "b3");
        Due.alike("all behind undo", game, Due.noSlots());
        TowerShades same = Due.game("a1=1");
        Due.same("saved by a load that changes nothing", same.count(9), 1);
    }

    private static void loadReturnsTheTowers() {
        TowerShades game = written("a1=0");
        Due.same("load of a crowd alone", game.load(), 0);
        int towers = 0;
        for (char row = 'a'; row <= 'f'; row++) {
            Due.write(game, row + "1+9;" + row + "2-9;" + row + "3+9;" + row + "4-9;" + row + "5+9;" + row + "6-9");
            towers += 6;
            Due.same("load of the row " + row, game.load(), towers);
        }
        Due.write(game, "a1-1");
        Due.same("load onto a tower of a full field", game.load(), 36);
    }

    private static void noField() {
        for (int length = 0; length < LONGEST.length(); length++) {
            if (length % 5 != 4) {
                isNoField(LONGEST.substring(0, length));
            }
        }
        isNoField("a1+1;a1+1;a1+");
        isNoField("a1+1;b2");
        isNoField("zzzz");
        isNoField(LONGEST + ";");
    }
}
