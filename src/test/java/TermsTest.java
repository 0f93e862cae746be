import java.math.BigInteger;

/** The document's Terms, sentence by sentence, with each edge that they name. */
public final class TermsTest extends Sentences {
    private static final String SQUARE = "maze wide 2 long 2;";
    private static final String OBLONG = "maze wide 3 long 4;";
    private static final String GREAT = "maze wide 5 long 5;";
    private static final String[] WORDS = {"wall", "hedge", "gate", "guest", "letter", "law"};

    public static void main(String[] args) {
        TermsTest test = new TermsTest();
        test.section("Terms");
        test.lines();
        test.lengths();
        test.coordinates();
        test.to();
        test.onceAndAtMost();
        test.hangTogether();
        test.tokens();
        test.faults();
        test.slots();
        test.cellsAndSides();
        test.steps();
        test.nights();
        test.days();
        test.walks();
        test.draws();
        test.finish();
    }

    // ---- I: the text of a maze ----

    private void lines() {
        says("I. MAZE: {LINE ;}.");
        reads("", 0);
        reads("\n \n", 0);
        reads(SQUARE, 1);
        reads(SQUARE + "gate at 0 0;gate at 0 1;gate at 1 0;", 4);
        spoiltAt("@;", 1);
        spoiltAt("maze wide 2 long 2@", 1);
        spoiltAt("maze wide 2 long 2 @law far;", 1);
        spoiltAt(SQUARE + "law far@", 1);
        spoiltAt(SQUARE + "@;law far;", 1);
        says("LINE: maze wide N long N | wall at X Y TO | hedge at X Y TO | gate at X Y"
            + " | guest at X Y | letter at X Y | law LAW.");
        eachTokenOf("", "maze", "wide", "#", "long", "#", ";");
        eachTokenOf(OBLONG, "wall", "at", "#", "#", "east", ";");
        eachTokenOf(OBLONG, "hedge", "at", "#", "#", "south", ";");
        eachTokenOf(OBLONG, "gate", "at", "#", "#", ";");
        eachTokenOf(OBLONG, "guest", "at", "#", "#", ";");
        eachTokenOf(OBLONG, "letter", "at", "#", "#", ";");
        eachTokenOf(OBLONG, "law", "near", ";");
        says("LAW: far | near.");
        reads(SQUARE + "law far;", 2);
        due("count(8)", 0);
        reads(SQUARE + "law near;", 2);
        due("count(8)", 1);
        spoiltAt(SQUARE + "law @nearer;", 1);
        spoiltAt(SQUARE + "law @fa;", 1);
        spoiltAt(SQUARE + "law @law;", 1);
    }

    /** The line stands; then it ends ahead of each token, or has another in place of it. */
    private void eachTokenOf(String before, String... tokens) {
        String[] others = {"zz", "at", "wide", "maze", "far", "7", ";", "?"};
        String number = before.isEmpty() ? "2" : "1";
        reads(before + String.join(" ", tokens).replace("#", number), before.isEmpty() ? 1 : 2);
        for (int i = 0; i < tokens.length; i++) {
            StringBuilder ahead = new StringBuilder(before);
            for (int j = 0; j < i; j++) {
                ahead.append(tokens[j].replace("#", number)).append(' ');
            }
            if (i > 0) {
                spoilt(ahead.toString(), 1, ahead.length());
            }
            for (String other : others) {
                boolean isSame = tokens[i].equals(other) || other.equals("far") && tokens[i].equals("near");
                boolean isNumber = tokens[i].equals("#") && other.equals("7");
                if (!isSame) {
                    spoilt(ahead + other + " ; ", isNumber ? 2 : 1, ahead.length());
                }
            }
        }
    }

    private void lengths() {
        says("maze is the first LINE and no other: wide, long 2 .. 5.");
        for (int wide = 0; wide <= 7; wide++) {
            for (int deep = 0; deep <= 7; deep++) {
                String text = "maze wide " + wide + " long " + deep + ";";
                if (wide < 2 || wide > 5) {
                    spoilt(text, 2, 10);
                } else if (deep < 2 || deep > 5) {
                    spoilt(text, 2, 17);
                } else {
                    reads(text, 1);
                    due("count(0)", wide);
                    due("count(1)", deep);
                }
            }
        }
        for (String word : WORDS) {
            spoilt(word + " at 0 0;", 1, 0);
            spoilt(word + " at 0 0;" + SQUARE, 1, 0);
        }
        spoiltAt(SQUARE + "@maze wide 2 long 2;", 1);
        spoiltAt(SQUARE + "law near;@maze wide 2 long 2;", 1);
        spoiltAt(SQUARE + "law near;@maze", 1);
        // numbers that would be in bounds if they were cut
        for (int bits = 4; bits <= 80; bits++) {
            spoilt("maze wide " + BigInteger.ONE.shiftLeft(bits).add(BigInteger.TWO) + " long 2;", 2, 10);
        }
    }

    private void coordinates() {
        says("X 0 .. wide less 1, Y 0 .. long less 1.");
        for (int wide = 2; wide <= 5; wide++) {
            for (int deep = 2; deep <= 5; deep++) {
                String maze = "maze wide " + wide + " long " + deep + ";";
                cellsOf(maze, wide, deep, "gate at ", ";");
                cellsOf(maze, wide, deep, "guest at ", ";");
                cellsOf(maze, wide, deep, "letter at ", ";");
                cellsOf(maze, wide, deep, "wall at ", " TO;");
                cellsOf(maze, wide, deep, "hedge at ", " TO;");
            }
        }
    }

    private void cellsOf(String maze, int wide, int deep, String head, String tail) {
        // the last row has no side to the south, the last column none to the east
        reads(maze + head + "0 0" + tail.replace("TO", "east"), 2);
        reads(maze + head + (wide - 1) + " 0" + tail.replace("TO", "south"), 2);
        reads(maze + head + "0 " + (deep - 1) + tail.replace("TO", "east"), 2);
        String some = tail.replace("TO", "east");
        spoiltAt(maze + head + "@" + wide + " 0" + some, 2);
        spoiltAt(maze + head + "0 @" + deep + some, 2);
        spoiltAt(maze + head + "@" + wide + " " + deep + some, 2);
        spoiltAt(maze + head + "@4294967296 0" + some, 2);
        spoiltAt(maze + head + "0 @18446744073709551616" + some, 2);
    }

    private void to() {
        says("TO: east | south: a SIDE of that CELL (not one of the edge) on which there is neither"
            + " wall nor hedge yet.");
        for (String word : new String[] {"wall", "hedge"}) {
            for (int y = 0; y < 4; y++) {
                spoiltAt(OBLONG + word + " at 2 " + y + " @east;", 2);
                reads(OBLONG + word + " at 1 " + y + " east;", 2);
            }
            for (int i = 0; i < 3; i++) {
                spoiltAt(OBLONG + word + " at " + i + " 3 @south;", 2);
                reads(OBLONG + word + " at " + i + " 2 south;", 2);
            }
            spoiltAt(OBLONG + word + " at 1 1 @north;", 1);
            spoiltAt(OBLONG + word + " at 1 1 @west;", 1);
            for (String other : new String[] {"wall", "hedge"}) {
                String first = OBLONG + word + " at 1 1 east;";
                spoiltAt(first + other + " at 1 1 @east;", 2);
                reads(first + other + " at 1 1 south;", 3);
                reads(first + other + " at 0 1 east;", 3);
                spoiltAt(first + "gate at 0 0;" + other + " at 1 1 south;" + other + " at 1 1 @south;", 2);
            }
        }
    }

    private void onceAndAtMost() {
        says("letter, law once (none, far without).");
        reads(SQUARE, 1);
        due("count(8)", 0);
        due("count(9)", NONE);
        reads(SQUARE + "letter at 1 1;law near;", 3);
        due("count(8)", 1);
        due("count(9)", 3);
        spoiltAt(SQUARE + "letter at 1 1;law near;@letter at 0 0;", 2);
        spoiltAt(SQUARE + "law near;letter at 1 1;@law near;", 2);
        says("HEDGES 12, walls 12, GATES 4, GUESTS 0 .. 4 at most; none two GATES on one CELL.");
        reads(GREAT + tubs("hedge", 12), 13);
        due("count(2)", 12);
        due("count(3)", 0);
        reads(GREAT + tubs("wall", 12), 13);
        due("count(2)", 0);
        due("count(3)", 12);
        reads(GREAT + tubs("hedge", 12) + tubs("wall", 4), 17);
        due("count(2)", 12);
        due("count(3)", 4);
        due("shape(3)", 24);
        reads(GREAT + tubs("wall", 12) + tubs("hedge", 4), 17);
        reads(SQUARE + "gate at 0 0;gate at 1 1;gate at 1 0;gate at 0 1;", 5);
        due("count(4)", 4);
        reads(GREAT + guests(5), 6);
        due("count(5)", 5);
        each("guest(#)", 0, 1, 2, 3, 4, NONE);
        spoiltAt(SQUARE + "gate at 1 1;gate at 1 @1;", 2);
        spoiltAt(SQUARE + "gate at 1 1;gate at 0 0;gate at 0 1;gate at 0 @1;", 2);
        spoiltAt(SQUARE + "gate at 1 0;gate at 0 1;gate at 1 @0;", 2);
        reads(SQUARE + "guest at 1 1;guest at 1 1;gate at 1 1;letter at 1 1;guest at 1 1;", 6);
    }

    /** Hedges to the east in the rows 0 .. 2, walls in the rows 4 .. 2: so many of them. */
    private static String tubs(String word, int many) {
        StringBuilder text = new StringBuilder();
        for (int i = 0; i < many; i++) {
            int y = word.equals("hedge") ? i / 4 : 4 - i / 4;
            text.append(word).append(" at ").append(i % 4).append(' ').append(y).append(" east;");
        }
        return text.toString();
    }

    private static String guests(int many) {
        StringBuilder text = new StringBuilder();
        for (int i = 0; i < many; i++) {
            text.append("guest at ").append(i % 5).append(" 0;");
        }
        return text.toString();
    }

    private void hangTogether() {
        says("All CELLS hang together by OPEN SIDES behind the last LINE (of a MAZE that has a LINE).");
        reads("", 0);
        for (String word : new String[] {"wall", "hedge"}) {
            for (String other : new String[] {"wall", "hedge"}) {
                String three = SQUARE + word + " at 0 0 east;";
                reads(three, 2);
                // cell 0 alone; the halves; cell 3 alone
                spoiltAt(three + other + " at 0 0 south;@", 2);
                spoiltAt(three + other + " at 0 1 east;@", 2);
                spoiltAt(SQUARE + word + " at 1 0 south;" + other + " at 0 1 east;@", 2);
                spoiltAt(three + other + " at 0 0 south;gate at 0 0;law near;\n@", 2);
            }
        }
        // 12 and 12 are within their bounds, but leave 16 sides for 25 cells
        spoiltAt(GREAT + tubs("hedge", 12) + "wall at 0 0 south;" + "wall at 1 0 south;"
            + "wall at 2 0 south;wall at 3 0 south;wall at 4 0 south;wall at 0 1 south;"
            + "wall at 1 1 south;wall at 2 1 south;wall at 3 1 south;wall at 4 1 south;"
            + "wall at 0 2 south;wall at 1 2 south;@", 2);
        spoiltAt(GREAT + tubs("hedge", 12) + tubs("wall", 4) + "wall at 4 0 south;@", 2);
        spoiltAt("maze wide 5 long 2;wall at 3 0 east;wall at 3 1 east;@", 2);
        reads("maze wide 5 long 2;wall at 3 0 east;wall at 3 0 south;", 3);
    }

    // ---- the block: tokens, faults, slots ----

    private void tokens() {
        says("TOKENS, blanks (32, 10) aside, the longest: words (a .. z), numbers (digits), the sign ; .");
        for (int sign = 0; sign < 256; sign++) {
            boolean isBlank = sign == 32 || sign == 10;
            boolean isDigit = sign >= '0' && sign <= '9';
            boolean isLetter = sign >= 'a' && sign <= 'z';
            String lone = SQUARE + (char) sign;
            String inNumber = "maze wide 2 long 2" + (char) sign + ";";
            String inWords = "maze" + (char) sign + "wide 2 long 2;";
            if (isBlank) {
                reads(lone, 1);
                reads(inNumber, 1);
                reads(inWords, 1);
                reads((char) sign + SQUARE, 1);
            } else {
                spoilt(lone, 1, 19);
                spoilt(inNumber, isDigit ? 2 : 1, isDigit ? 17 : sign == ';' ? 19 : 18);
                spoilt(inWords, 1, isLetter ? 0 : 4);
                spoilt((char) sign + SQUARE, 1, 0);
            }
        }
        reads("maze wide2long2;law near;gate at 0 0;", 3);
        reads("maze\n\nwide 02 long 0000000002 ;", 1);
        reads("maze wide " + "0".repeat(1500) + "5 long 2;", 1);
        spoiltAt("@mazewide 2 long 2;", 1);
        spoiltAt("maze wide @22 long 2;", 2);
        spoiltAt("maze wide 2 @2 long 2;", 1);
        spoiltAt("maze wide @1" + "0".repeat(1500) + " long 2;", 2);
        spoiltAt(SQUARE + "@gateat 0 0;", 1);
        wordsNearly();
    }

    /** A word with another letter in one place, with one more or one less, is another word. */
    private void wordsNearly() {
        String line = "maze wide 3 long 2;wall at 0 0 east;hedge at 1 0 south;gate at 0 0;guest at 0 0;"
            + "letter at 0 0;law near;";
        reads(line, 7);
        for (int i = 0; i < line.length(); i++) {
            char sign = line.charAt(i);
            if (sign < 'a' || sign > 'z') {
                continue;
            }
            int start = i;
            while (start > 0 && line.charAt(start - 1) >= 'a') {
                start--;
            }
            for (String other : new String[] {"", "q", Character.toString(sign) + sign}) {
                spoilt(line.substring(0, i) + other + line.substring(i + 1), 1, start);
            }
            char great = Character.toUpperCase(sign);
            spoilt(line.substring(0, i) + great + line.substring(i + 1), 1, start);
        }
    }

    private void faults() {
        says("FAULTS, the first by its place (a TOKEN's first byte; the end's), of one place the least:");
        spoiltAt("maze wide @9 long 9 ?", 2);
        spoiltAt("maze wide 2 @? long 9;", 1);
        spoiltAt(SQUARE + "gate at @2 2;gate at 0 0;?", 2);
        spoiltAt(SQUARE + "wall at 0 0 east;wall at 0 0 south;gate at 0 @7;", 2);
        spoiltAt("  \n  maze   @long", 1);
        spoiltAt("maze wide 2 long 2  @", 1);
        spoiltAt("maze wide 2 long 2 \n  \n@", 1);
        spoiltAt(SQUARE + "wall at 0 0 east;wall at 0 0 south;@", 2);
        spoiltAt(SQUARE + "wall at 0 0 east;wall at 0 0 south; \n@", 2);
        // the end has both faults here
        spoiltAt(SQUARE + "wall at 0 0 east;wall at 0 0 south@", 1);
        spoiltAt(SQUARE + "wall at 0 0 east;wall at 0 0 south;law @", 1);
        says("1 a TOKEN that is none, or can't stand there (maze behind the first LINE, another word"
            + " ahead of it).");
        spoiltAt("@Maze wide 2 long 2;", 1);
        spoiltAt("@mazes wide 2 long 2;", 1);
        spoiltAt("@maz wide 2 long 2;", 1);
        spoiltAt("@law far;" + SQUARE, 1);
        spoiltAt("@2;", 1);
        spoiltAt(SQUARE + "@maze;", 1);
        spoiltAt(SQUARE + "wall at @-1 0 east;", 1);
        spoiltAt(SQUARE + "wall at 0 0@, east;", 1);
        spoiltAt(SQUARE + "@hedges at 0 0 east;", 1);
        says("2 a number out of its bounds; TO of a SIDE that is none, is not free; Y of a GATE that is"
            + " one; letter, law told already (at it); at the end: CELLS do not hang together.");
        spoiltAt("maze wide @1 long 2;", 2);
        spoiltAt("maze wide 2 long @6;", 2);
        spoiltAt(SQUARE + "hedge at 1 0 @east;", 2);
        spoiltAt(SQUARE + "hedge at 0 0 east;wall at 0 0 @east;", 2);
        spoiltAt(SQUARE + "gate at 1 0;gate at 1 @0;", 2);
        spoiltAt(SQUARE + "gate at 1 0;gate at 1 @0", 2);
        spoiltAt(SQUARE + "letter at 1 0;@letter", 2);
        spoiltAt(SQUARE + "letter at 1 0;@letter at 9 9;", 2);
        spoiltAt(SQUARE + "law far;@law", 2);
        spoiltAt(SQUARE + "law far;@law zz;", 2);
        spoiltAt(SQUARE + "hedge at 0 0 east;hedge at 0 0 south;@", 2);
        says("3 a 13th hedge, 13th wall, 5th gate, 6th guest, at its word.");
        tooMany(GREAT + tubs("hedge", 12), "hedge at 0 3 east;");
        tooMany(GREAT + tubs("wall", 12), "wall at 0 0 east;");
        tooMany(GREAT + tubs("hedge", 12) + tubs("wall", 4), "hedge at 4 0 south;");
        tooMany(SQUARE + "gate at 0 0;gate at 1 1;gate at 1 0;gate at 0 1;", "gate at 0 0;");
        tooMany(GREAT + guests(5), "guest at 0 0;");
    }

    private void tooMany(String full, String more) {
        String word = more.substring(0, more.indexOf(' '));
        spoiltAt(full + "@" + more, 3);
        spoiltAt(full + " @" + word, 3);
        spoiltAt(full + "@" + word + " ? 99", 3);
        spoiltAt(full + "@" + word + "s", 1);
        spoiltAt(full + "law near;@" + more, 3);
    }

    private void slots() {
        says("SLOTS 0 .. 3 have rows of numbers of 1, 2, 4 or 8 bytes (WIDTH 0 .. 3), at most 60, or"
            + " nothing.");
        fresh();
        due("count(10)", 0);
        all(-2, "row(-1, 0, 1)", "row(4, 0, 1)", "row(0, -1, 1)", "row(0, 4, 1)", "row(0, 0, 61)");
        due("count(10)", 0);
        for (int slot = 0; slot < 4; slot++) {
            due("write(" + slot + ", 0, 0)", -6);
            due("row(" + slot + ", " + slot + ", 60)", 0);
            due("count(10)", slot + 1);
            due("write(" + slot + ", 59, 0)", 0);
            due("write(" + slot + ", 60, 0)", -7);
        }
    }

    // ---- II: cells, sides, ways ----

    private void cellsAndSides() {
        says("II. CELLS are numbered by Y, then X: wide times Y and X.");
        for (int y = 0; y < 5; y++) {
            for (int i = 0; i < 4; i++) {
                reads("maze wide 4 long 5;guest at " + i + " " + y + ";letter at " + i + " " + y + ";", 3);
                due("guest(0)", 4 * y + i);
                due("count(9)", 4 * y + i);
            }
        }
        says("SIDES lie between CELLS side by side, numbered by their first CELL (the lesser one), the one"
            + " to the east ahead of the one to the south.");
        for (int wide = 2; wide <= 5; wide++) {
            for (int deep = 2; deep <= 5; deep++) {
                told("maze wide " + wide + " long " + deep + ";");
                numbersOfSides(wide, deep);
            }
        }
        says("OPEN: neither HEDGE nor wall is on it.");
        told("maze wide 3 long 2;hedge at 0 0 east;wall at 1 0 south;");
        each("what(#, 2)", 1, 0, 0, 2, 0, 0, 0);
    }

    private void numbersOfSides(int wide, int deep) {
        int number = 0;
        for (int cell = 0; cell < wide * deep; cell++) {
            if (cell % wide < wide - 1) {
                isSide(number++, cell, cell + 1, 1);
            } else {
                due("side(" + cell + ", 1)", NONE);
            }
            if (cell + wide < wide * deep) {
                isSide(number++, cell, cell + wide, 2);
            } else {
                due("side(" + cell + ", 2)", NONE);
            }
        }
        due("sides()", number);
        for (int i = 0; i < wide; i++) {
            due("side(" + i + ", 0)", NONE);
        }
        for (int y = 0; y < deep; y++) {
            due("side(" + wide * y + ", 3)", NONE);
        }
    }

    private void isSide(int number, int cell, int next, int way) {
        due("side(" + cell + ", " + way + ")", number);
        due("side(" + next + ", " + (way + 2) % 4 + ")", number);
        due("what(" + number + ", 0)", cell);
        due("what(" + number + ", 1)", next);
        due("what(" + number + ", 2)", 0);
    }

    private void steps() {
        says("One steps through OPEN SIDES.");
        told("maze wide 3 long 2;hedge at 0 0 east;wall at 1 0 south;");
        each("far(0, #)", 0, 5, 4, 1, 2, 3);
        due("night(0, 4)", 0);
        each("far(0, #)", 0, 1, 2, 1, 2, 3);
        says("FIRST WAY: of those with the fewest steps, at each step north if that is one, else east,"
            + " south, west.");
        told("maze wide 3 long 3;");
        each("way(6, 2, #)", 6, 3, 0, 1, 2, NONE);
        each("way(0, 8, #)", 0, 1, 2, 5, 8, NONE);
        each("way(2, 6, #)", 2, 5, 8, 7, 6, NONE);
        each("way(8, 0, #)", 8, 5, 2, 1, 0, NONE);
        each("way(4, 4, #)", 4, NONE);
        // north is shut at once, or behind a step
        told("maze wide 3 long 3;hedge at 0 1 south;wall at 1 0 south;");
        each("way(6, 2, #)", 6, 7, 4, 5, 2, NONE);
        // fewer steps go ahead of north
        told("maze wide 3 long 3;hedge at 0 0 east;hedge at 0 1 east;");
        each("way(3, 5, #)", 3, 6, 7, 4, 5, NONE);
    }

    // ---- III: nights ----

    private void nights() {
        says("III. A NIGHT: the HEDGE of a SIDE goes to another SIDE that is OPEN; by LAW near to one that a"
            + " CELL of the first one has, too; so that all CELLS hang together then.");
        // side 22 is between the cells 12 and 13, side 23 between 12 and 17
        nearIs("hedge at 2 2 east;", 22, 14, 16, 20, 23, 24, 25);
        nearIs("hedge at 2 2 south;", 23, 14, 20, 22, 29, 31, 32);
        nearIs("hedge at 0 0 east;", 0, 1, 2, 3);
        nearIs("hedge at 3 4 east;", 39, 34, 35, 38);
        nearIs("hedge at 4 3 south;", 35, 26, 33, 39);
        told("maze wide 2 long 2;hedge at 0 0 east;");
        each("lawful(0, #)", 2, 0, 0, 0);
        told("maze wide 2 long 2;hedge at 0 0 east;law near;");
        each("lawful(0, #)", 2, 0, 0, 3);
        told("maze wide 3 long 2;hedge at 0 0 east;wall at 2 0 south;");
        each("lawful(0, #)", 2, 0, 4, 0, 2, 0, 4);
    }

    /** In a great maze of one hedge, to these sides alone it may go by law near, to all by far. */
    private void nearIs(String hedge, int from, int... near) {
        told(GREAT + hedge + "law near;");
        due("many()", near.length);
        for (int i = 0; i < near.length; i++) {
            due("nth(" + i + ")", 100 * from + near[i]);
        }
        for (int to = 0; to < 40; to++) {
            boolean isNear = false;
            for (int side : near) {
                isNear |= side == to;
            }
            due("lawful(" + from + ", " + to + ")", isNear ? 0 : to == from ? 2 : 3);
        }
        told(GREAT + hedge);
        due("many()", 39);
    }

    // ---- IV: days ----

    private void days() {
        says("IV. DAYS and NIGHTS by turns, a DAY first.");
        // by the day ahead of the night alone cell 0 has the gate next to it
        told("maze wide 2 long 2;hedge at 0 1 east;gate at 1 0;");
        fill(0, 1, 300);
        due("out(0, 0, 1)", 0);
        due("out(0, 2, 1)", NONE);
        says("On a DAY one goes up to so many steps, by that DAY's MAZE, or stays; at a GATE he is out.");
        due("out(0, 1, 1)", 0);
        due("out(0, 1, 99)", 0);
        due("out(0, 0, 99)", 0);
        due("out(0, 2, 2)", 0);
        told("maze wide 3 long 2;hedge at 0 0 east;wall at 1 0 south;gate at 2 0;");
        fill(0, 1, 1);
        fill(1, 1, 6);
        // on the first day he stays, or comes to 3; then side 0 is open: two steps from 0
        due("out(0, 0, 1)", NONE);
        due("out(0, 0, 2)", 1);
        due("out(0, 0, 3)", 1);
        due("out(0, 0, 4)", 0);
        due("out(1, 4, 1)", 1);
        due("out(1, 3, 1)", NONE);
        says("HELD for d DAYS: whatever he does (he sees all), gardeners can have lawful NIGHTS so that he"
            + " is at no GATE on these (d less 1 NIGHTS between them); if there is no lawful NIGHT, the"
            + " MAZE stays as it is.");
        each("held(#, 1, 1)", 1, 0, 0, 1, 1, 0);
        each("held(#, 1, 2)", 1, 0, 0, 1, 1, 0);
        each("held(#, 2, 2)", 1, 0, 0, 1, 0, 0);
        // no hedge: what is near enough in all these days together is out
        told("maze wide 5 long 2;gate at 0 0;");
        each("held(#, 1, 1)", 0, 0, 1, 1, 1, 0, 1, 1, 1, 1);
        each("held(#, 1, 2)", 0, 0, 0, 1, 1, 0, 0, 1, 1, 1);
        each("held(#, 1, 3)", 0, 0, 0, 0, 1, 0, 0, 0, 1, 1);
        each("held(#, 2, 2)", 0, 0, 0, 0, 0, 0, 0, 0, 0, 1);
        told("maze wide 5 long 2;");
        due("hold(99, 3)", 10);
    }

    // ---- V: walks ----

    private void walks() {
        says("V. A WALK: steps one behind the other: 0 .. 3 north, east, south, west: one goes there;"
            + " 4 .. 7 likewise: one can't (no OPEN SIDE is there).");
        told("maze wide 3 long 3;");
        for (int way = 0; way < 4; way++) {
            fill(0, 0, way);
            due("walk(0, 4)", 1);
            due("ends(0, 4)", new int[] {1, 5, 7, 3}[way]);
            fill(0, 0, way + 4);
            due("walk(0, 4)", 0);
            due("ends(0, 4)", 4);
        }
        // from the corners: over the edge one can't go
        walkAtCorner(0, 4, 7, 1, 2);
        walkAtCorner(2, 4, 5, 2, 3);
        walkAtCorner(6, 6, 7, 0, 1);
        walkAtCorner(8, 5, 6, 0, 3);
        told("maze wide 3 long 3;hedge at 1 0 south;wall at 1 1 east;hedge at 1 1 south;");
        fill(0, 0, 4, 5, 6, 3, 1, 4, 5, 6, 7);
        due("walk(0, 4)", 8);
        due("ends(0, 4)", 4);
        says("By a WALK that is told SIDES that are gone through are OPEN, those through which one can't go"
            + " are not (what is so by the MAZE aside; a step over the edge of the MAZE: one stays, no SIDE"
            + " is told by it).");
        fill(1, 0, 0);
        fill(2, 0, 4);
        due("odd(1, 4, 2, 4, 0)", 1);
        due("odd(2, 4, 1, 4, 1)", 3);
        due("odd(1, 4, 0, 4, 0)", 1);
        // over the edge from 1, then west to 0 and south to 3
        fill(1, 0, 0, 3, 3, 2);
        fill(2, 0, 5, 6);
        due("odd(1, 1, 2, 0, 0)", 2);
        due("odd(1, 1, 2, 0, 1)", 0);
        // one can't go over the edge: nothing is told by it, either
        fill(2, 0, 4, 7);
        due("odd(1, 1, 2, 0, 0)", 0);
        due("odd(2, 0, 2, 0, 0)", 0);
    }

    private void walkAtCorner(int cell, int shut, int shutToo, int open, int openToo) {
        fill(0, 0, shut, shutToo);
        due("walk(0, " + cell + ")", 2);
        due("ends(0, " + cell + ")", cell);
        fill(0, 0, shut - 4);
        due("walk(0, " + cell + ")", 0);
        due("ends(0, " + cell + ")", cell);
        fill(0, 0, shutToo - 4);
        due("walk(0, " + cell + ")", 0);
        fill(0, 0, open);
        due("walk(0, " + cell + ")", 1);
        fill(0, 0, openToo + 4);
        due("walk(0, " + cell + ")", 0);
    }

    // ---- VI: draws ----

    private void draws() {
        says("VI. DRAWS: x becomes (1103515245 x + 12345) modulo 2,147,483,648 (at first it is the seed);"
            + " a draw of n: x / 65536, cut, modulo n.");
        for (int seed : new int[] {0, 1, 2, 7, 65535, 65536, 99999999, 1999999999, 2000000000}) {
            drawnFrom("maze wide 3 long 3;gate at 1 1;hedge at 0 0 east;hedge at 1 1 south;", seed);
            drawnFrom(GREAT + "law near;gate at 4 4;" + tubs("hedge", 12), seed);
        }
        says("Each NIGHT: a draw of how many lawful ones there are: which, as nth(); none, without a draw, if"
            + " there are none.");
        told("maze wide 3 long 3;gate at 1 1;wall at 0 0 east;");
        each("drawn(5, #, 0)", 2, 2, 2);
        each("lastly(5, #)", NONE, NONE, NONE);
        due("lastly(5, 40)", NONE);
    }

    /** Has the nights of the draws by night(), one by one, and asks ahead of them in thought. */
    private void drawnFrom(String text, int seed) {
        BigInteger modulus = BigInteger.TWO.pow(31);
        BigInteger number = BigInteger.valueOf(seed);
        told(text);
        HedgeMaze after = Checker.told(text);
        due("lastly(" + seed + ", 0)", NONE);
        for (int n = 1; n <= 40; n++) {
            number = number.multiply(BigInteger.valueOf(1103515245)).add(BigInteger.valueOf(12345)).mod(modulus);
            int which = number.divide(BigInteger.valueOf(65536)).intValueExact() % after.many();
            int night = after.nth(which);
            check.due("night " + night, after.night(night / 100, night % 100), 0);
            due("lastly(" + seed + ", " + n + ")", night);
            due("drawn(" + seed + ", " + n + ", 0)", after.gate(0));
        }
        due("gone(NONE)", 0);
    }
}
