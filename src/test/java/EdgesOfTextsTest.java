/** The sentences of promises 41 to 47 that name an edge: a test for each. */
public final class EdgesOfTextsTest {
    private static final Check CHECK = new Check("EdgesOfTextsTest");
    private static final String HEAD = "board 12 8 turn 2;";
    private static final String STAR = "board 12 8 turn 3;line a size 1 stops 3 at 0 0 at 6 6;"
        + "line b size 2 stops 2 at 7 0 at 0 7;line c size 3 stops 2 at 0 1 at 8 1;";
    private static final int LEAST = Integer.MIN_VALUE;
    private static final int MOST = Integer.MAX_VALUE;

    public static void main(String[] args) throws Exception {
        CHECK.eachSentence(EdgesOfTextsTest.class);
        CHECK.end();
    }

    private static void due(String call, double got, double want) {
        CHECK.due(call, got, want);
    }

    private static String nine(int many) {
        StringBuilder all = new StringBuilder(HEAD);
        for (int i = 0; i < many; i++) {
            all.append("line ").append((char) ('a' + i)).append(" size 1 stops 2 at 1 ").append(i).append(" at 5 ").append(i).append(";");
        }
        return all.toString();
    }

    // ---- promise 41

    @Says(in = "Promise 41", words = "Returns its length, as a float, divided by STOPS less 1, as a float")
    private static void meanGaps() {
        LineDiagram x = Check.of("board 40 8 turn 3;line a size 2 stops 4 at 0 0 at 10 0;line b size 2 stops 3 at 0 1 at 7 1;line c size 1 stops 20 at 0 2 at 39 2;"
            + "line d size 1 stops 2 at 0 3 at 1 3;");
        due("meanGap(0)", x.meanGap(0), 10f / 3f);
        due("meanGap(1), not cut", x.meanGap(1), 3.5f);
        due("meanGap(2)", x.meanGap(2), 39f / 19f);
        due("meanGap(3) of one step", x.meanGap(3), 1f);
        due("setStops", x.setStops(2, 2), 0);
        due("meanGap(2) of two stations", x.meanGap(2), 39f);
    }

    @Says(in = "Promise 41", words = "-1 for an invalid argument")
    private static void invalidMeanGap() {
        LineDiagram x = Check.of(STAR);
        for (int line : new int[] {-1, 3, 8, LEAST, MOST}) {
            due("meanGap(" + line + ")", x.meanGap(line), -1f);
        }
        due("meanGap(0) without lines", new LineDiagram().meanGap(0), -1f);
    }

    // ---- promise 42

    @Says(in = "Promise 42", words = "Returns the number of labels, as a double, divided by that of places, as a double")
    private static void labelledPlaces() {
        LineDiagram x = Check.of(STAR);
        due("labelled() without labels", x.labelled(), 0);
        x.label(1, 0, 0);
        due("labelled() of one of seven", x.labelled(), 1.0 / 7.0);
        x.label(2, 1, 7);
        due("labelled() of two of seven", x.labelled(), 2.0 / 7.0);
        x.setStops(0, 2);
        due("labelled() of two of six", x.labelled(), 2.0 / 6.0);
        x = Check.of("board 12 8 turn 2;line a size 2 stops 5 at 1 1 at 5 1 at 5 5 at 1 5 at 1 1;");
        x.labelAll();
        due("labelled() of all four places of five stations", x.labelled(), 1);
    }

    @Says(in = "Promise 42", words = "0 without places")
    private static void labelledWithoutPlaces() {
        due("labelled() of a new object", new LineDiagram().labelled(), 0);
        LineDiagram x = Check.of(STAR);
        x.labelAll();
        Check.write(x, HEAD);
        x.load();
        due("labelled() behind load", x.labelled(), 0);
    }

    // ---- promise 43

    private static final String NAMES = "board 9 9 turn 2;line a size 1 stops 2 at 0 0 at 5 0;line zz size 1 stops 2 at 0 1 at 5 1;"
        + "line abcdef size 1 stops 2 at 0 2 at 5 2;line abcde size 1 stops 2 at 0 3 at 5 3;line zzzzzz size 1 stops 2 at 0 4 at 5 4;";
    private static final int A = 1 << 25;

    @Says(in = "Promise 43", words = "six groups of 5 bits, the first letter in bits 25 to 29; a is 1, z is 26; unused groups at the end are 0")
    private static void packedNames() {
        LineDiagram x = Check.of(NAMES);
        due("a", x.named(1 << 25), 0);
        due("zz", x.named(26 << 25 | 26 << 20), 1);
        due("abcdef", x.named(1 << 25 | 2 << 20 | 3 << 15 | 4 << 10 | 5 << 5 | 6), 2);
        due("abcde", x.named(1 << 25 | 2 << 20 | 3 << 15 | 4 << 10 | 5 << 5), 3);
        due("zzzzzz", x.named(26 << 25 | 26 << 20 | 26 << 15 | 26 << 10 | 26 << 5 | 26), 4);
    }

    @Says(in = "Promise 43", words = "any other int (0, a group from 27 to 31, a letter behind an unused group, a negative int, bit 30) is an invalid argument")
    private static void otherInts() {
        LineDiagram x = Check.of(NAMES);
        due("named(0)", x.named(0), -1);
        int full = 1 << 25 | 2 << 20 | 3 << 15 | 4 << 10 | 5 << 5 | 6;
        for (int shift = 0; shift <= 25; shift += 5) {
            for (int group = 26; group <= 31; group++) {
                int name = full & ~(31 << shift) | group << shift;
                due("a group of " + group + " at bit " + shift, x.named(name), group == 26 ? -2 : -1);
            }
            // without its letter, that behind it stands behind an unused group
            due("an unused group at bit " + shift, x.named(full & ~(31 << shift)), shift == 0 ? 3 : -1);
        }
        for (int name : new int[] {1, 1 << 5, 1 << 10, 1 << 15, 1 << 20, A | 1, A | 1 << 5, A | 1 << 10, A | 1 << 15}) {
            due("named(" + name + ")", x.named(name), -1);
        }
        due("a and a negative int", x.named(A | LEAST), -1);
        due("a and bit 30", x.named(A | 1 << 30), -1);
        due("a and both", x.named(A | 3 << 30), -1);
        for (int name : new int[] {-1, LEAST, MOST, 1 << 30}) {
            due("named(" + name + ")", x.named(name), -1);
        }
    }

    @Says(in = "Promise 43", words = "Returns its number; INVALID for an invalid argument; NOT_FOUND if there is none")
    private static void namesThatAreNotThere() {
        LineDiagram x = Check.of(NAMES);
        for (String none : new String[] {"b", "z", "aa", "zzz", "abcd", "abcdeg", "board", "at"}) {
            due("named(" + none + ")", x.named(Check.letters(none)), -2);
        }
        due("named(a) without lines", new LineDiagram().named(A), -2);
        due("named(0) without lines", new LineDiagram().named(0), -1);
        x = Check.of(nine(8));
        for (int i = 0; i < 8; i++) {
            due("the line " + i + " of eight", x.named(i + 1 << 25), i);
        }
        due("a ninth one", x.named(9 << 25), -2);
        Check.write(x, HEAD);
        x.load();
        due("named(a) behind load", x.named(A), -2);
    }

    // ---- promises 44 and 45

    @Says(in = "Promise 44", words = "for each cell a letter o (byte 111) for a place, a plus sign (byte 43) for a crossing at the cell, "
        + "the digit of the line with the smallest number for another cell of lines, an equals sign (byte 61) for a cell of a label, "
        + "a full stop (byte 46) for none of these; and a line feed (byte 10)")
    private static void bytesOfThePicture() {
        LineDiagram x = Check.of(STAR);
        x.label(1, 0, 0);
        String[] rows = {"o......o==..", "o+2222+2o...", "..0..1......", "...o1.......", "...10.......", "..1..0......", ".1....o.....", "o..........."};
        for (int y = 0; y < 8; y++) {
            for (int column = 0; column < 12; column++) {
                due("pictureByte of (" + column + ", " + y + ")", x.pictureByte(13 * y + column), rows[y].charAt(column));
            }
            due("the byte behind row " + y, x.pictureByte(13 * y + 12), 10);
        }
        due("pictureLength()", x.pictureLength(), 104);
        x = Check.of("board 4 4 turn 2;line a size 2 stops 2 at 0 0 at 0 3;");
        x.labelAll();
        CHECK.due("picture with labels of the first and of the last row", Check.picture(x), "o==.\n" + "0...\n" + "0...\n" + "o===\n");
        // the digits of all lines
        x = Check.of(nine(8));
        for (int i = 0; i < 8; i++) {
            due("a cell of line " + i, x.pictureByte(13 * i + 2), '0' + i);
        }
        // a line that comes to a cell again does not cross there, and a place is no crossing
        x = Check.of("board 9 9 turn 3;line a size 1 stops 2 at 0 4 at 8 4 at 8 0 at 4 0 at 4 8;line b size 1 stops 2 at 0 7 at 8 7;");
        due("where it comes again", x.pictureByte(10 * 4 + 4), '0');
        due("where the other one crosses it", x.pictureByte(10 * 7 + 4), '+');
        x.setStops(1, 3);
        due("where a station is then", x.pictureByte(10 * 7 + 4), 'o');
    }

    @Says(in = "Promise 44", words = "Returns the number of bytes")
    private static void lengthsOfPictures() {
        due("the board of a new object", new LineDiagram().pictureLength(), 21 * 12);
        due("the least board", Check.of("board 4 4 turn 0;").pictureLength(), 20);
        due("the widest board", Check.of("board 40 4 turn 0;").pictureLength(), 164);
        due("the highest board", Check.of("board 4 40 turn 0;").pictureLength(), 200);
        due("the greatest board", Check.of("board 40 40 turn 0;").pictureLength(), 1640);
    }

    @Says(in = "Promise 45", words = "position, from 0")
    private static void firstAndLastPictureByte() {
        LineDiagram x = Check.of("board 4 4 turn 0;line a size 1 stops 2 at 0 0 at 3 3;");
        due("pictureByte(0)", x.pictureByte(0), 'o');
        due("pictureByte(4)", x.pictureByte(4), 10);
        due("pictureByte(5)", x.pictureByte(5), '.');
        due("pictureByte(18)", x.pictureByte(18), 'o');
        due("pictureByte(19)", x.pictureByte(19), 10);
    }

    @Says(in = "Promise 45", words = "INVALID for a negative i")
    private static void negativePictureByte() {
        due("pictureByte(-1)", new LineDiagram().pictureByte(-1), -1);
        due("pictureByte of the least int", new LineDiagram().pictureByte(LEAST), -1);
        due("pictureByte(-1) with lines", Check.of(STAR).pictureByte(-1), -1);
    }

    @Says(in = "Promise 45", words = "NOT_FOUND if the picture is not so long")
    private static void pictureByteBeyond() {
        due("pictureByte(251)", new LineDiagram().pictureByte(251), 10);
        due("pictureByte(252)", new LineDiagram().pictureByte(252), -2);
        due("pictureByte of the greatest int", new LineDiagram().pictureByte(MOST), -2);
        LineDiagram x = Check.of("board 40 40 turn 0;");
        due("pictureByte(1639)", x.pictureByte(1639), 10);
        due("pictureByte(1640)", x.pictureByte(1640), -2);
        x = Check.of("board 4 4 turn 0;");
        due("pictureByte(20) of the least board", x.pictureByte(20), -2);
    }

    // ---- promises 46 and 47

    @Says(in = "Promise 46", words = "Tokens are separated by one space, but there is no space before a semicolon, and nothing between a semicolon and the next token")
    private static void spacesOfTheSetup() {
        LineDiagram x = Check.of("\nboard\n\n20 12turn2 ; line  a size1stops2at1 1at5 1\n;line b size 1 stops 2 at 1 1 at 5 1 ;  ");
        String setup = "board 20 12 turn 2;line a size 1 stops 2 at 1 1 at 5 1;line b size 1 stops 2 at 1 1 at 5 1;";
        due("setupLength()", x.setupLength(), setup.length());
        for (int i = 0; i < setup.length(); i++) {
            due("setupByte(" + i + ")", x.setupByte(i), setup.charAt(i));
        }
        for (String name : new String[] {"d", "z", "zz", "zzzzz", "zzzzzz", "zaaaaa"}) {
            setup = "board 20 12 turn 2;line " + name + " size 1 stops 2 at 1 1 at 5 1;";
            CHECK.due("setup of a line named " + name, Check.setup(Check.of(setup)), setup);
        }
        due("setupLength() of a new object", new LineDiagram().setupLength(), 19);
        CHECK.due("setup of a new object", Check.setup(new LineDiagram()), "board 20 12 turn 2;");
    }

    @Says(in = "Promise 46", words = "INTs are in decimal without leading zeros")
    private static void intsOfTheSetup() {
        CHECK.due("setup", Check.setup(Check.of("board 09 04 turn 00;line a size 01 stops 02 at 00 03 at 08 03;")),
            "board 9 4 turn 0;line a size 1 stops 2 at 0 3 at 8 3;");
        String two = "board 40 10 turn 3;line a size 10 stops 20 at 39 9 at 20 9 at 10 9 at 9 9;";
        CHECK.due("setup of INTs with two digits", Check.setup(Check.of(two)), two);
        LineDiagram x = Check.of(two);
        x.setSize(0, 9);
        x.setStops(0, 10);
        CHECK.due("setup behind changes", Check.setup(x), two.replace("size 10 stops 20", "size 9 stops 10"));
    }

    @Says(in = "Promise 46", words = "that describes the board and the lines as they are now (without labels)")
    private static void setupAsItIsNow() {
        LineDiagram x = Check.of(STAR);
        x.labelAll();
        CHECK.due("setup with labels", Check.setup(x), STAR);
        x.reverse(1);
        x.insert(2, 1, 4, 1);
        x.moveBend(0, 0, 1, 1);
        String changed = "board 12 8 turn 3;line a size 1 stops 3 at 1 1 at 6 6;line b size 2 stops 2 at 0 7 at 7 0;line c size 3 stops 2 at 0 1 at 4 1 at 8 1;";
        CHECK.due("setup behind changes", Check.setup(x), changed);
        x.undo();
        x.undo();
        x.undo();
        CHECK.due("setup behind undo", Check.setup(x), STAR);
        x = Check.of(STAR);
        Check.write(x, "board 5 5 turn 1");
        CHECK.due("setup with a text on the tape", Check.setup(x), STAR);
    }

    @Says(in = "Promise 46", words = "Returns the number of bytes")
    private static void lengthsOfSetups() {
        StringBuilder longest = new StringBuilder("board 40 40 turn 3;");
        for (char name = 'a'; name < 'i'; name++) {
            longest.append("line aaaaa").append(name).append(" size 10 stops 10 at 10 10");
            for (int i = 1; i < 10; i++) {
                longest.append(" at 1").append(i).append(" 10");
            }
            longest.append(";");
        }
        due("length of the longest text", longest.length(), 971);
        LineDiagram x = Check.of(longest.toString());
        due("setupLength()", x.setupLength(), 971);
        due("setupByte(970)", x.setupByte(970), ';');
        due("setupByte(971)", x.setupByte(971), -2);
        due("the shortest text", Check.of("board 4 4 turn 0;").setupLength(), 17);
        // one bound of 10 digits less and more
        x = Check.of(nine(1));
        int length = x.setupLength();
        x.setSize(0, 9);
        due("SIZE of one digit", x.setupLength(), length);
        x.setSize(0, 10);
        due("SIZE of two digits", x.setupLength(), length + 1);
    }

    @Says(in = "Promise 47", words = "position, from 0")
    private static void firstAndLastSetupByte() {
        LineDiagram x = new LineDiagram();
        due("setupByte(0)", x.setupByte(0), 'b');
        due("setupByte(18)", x.setupByte(18), ';');
        x = Check.of(STAR);
        due("setupByte(0)", x.setupByte(0), 'b');
        due("the byte behind the board", x.setupByte(18), 'l');
        due("the last byte", x.setupByte(STAR.length() - 1), ';');
    }

    @Says(in = "Promise 47", words = "INVALID for a negative i")
    private static void negativeSetupByte() {
        due("setupByte(-1)", new LineDiagram().setupByte(-1), -1);
        due("setupByte of the least int", new LineDiagram().setupByte(LEAST), -1);
        due("setupByte(-1) with lines", Check.of(STAR).setupByte(-1), -1);
    }

    @Says(in = "Promise 47", words = "NOT_FOUND if the text is not so long")
    private static void setupByteBeyond() {
        due("setupByte(19)", new LineDiagram().setupByte(19), -2);
        due("setupByte of the greatest int", new LineDiagram().setupByte(MOST), -2);
        LineDiagram x = Check.of(STAR);
        due("setupByte behind the text", x.setupByte(STAR.length()), -2);
        Check.write(x, HEAD);
        x.load();
        due("setupByte behind a text that was longer", x.setupByte(HEAD.length()), -2);
    }
}
