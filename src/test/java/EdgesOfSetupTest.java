/** The sentences of section 5 and of promises 1 to 5 and 48 that name an edge: a test for each. */
public final class EdgesOfSetupTest {
    private static final Check CHECK = new Check("EdgesOfSetupTest");
    private static final String HEAD = "board 20 12 turn 2;";
    private static final String LINE = "line a size 1 stops 2 at 1 1 at 5 1;";

    public static void main(String[] args) throws Exception {
        CHECK.eachSentence(EdgesOfSetupTest.class);
        CHECK.end();
    }

    private static void due(String call, double got, double want) {
        CHECK.due(call, got, want);
    }

    /** An object whose tape has as many bytes as told, all of them spaces. */
    private static LineDiagram spaces(int many) {
        LineDiagram x = new LineDiagram();
        Check.write(x, " ".repeat(many));
        return x;
    }

    private static String eightLines() {
        StringBuilder all = new StringBuilder(HEAD);
        for (char name = 'a'; name < 'i'; name++) {
            all.append("line ").append(name).append(" size 1 stops 2 at 1 1 at 5 1;");
        }
        return all.toString();
    }

    // ---- section 5: tokens

    @Says(in = "Terms 5", words = "Tokens are formed greedily")
    private static void greedyTokens() {
        CHECK.refuses("^boardturn 20 12 turn 2;");
        CHECK.refuses("board ^2012 turn 2;");
        CHECK.refuses(HEAD + "^linea size 1 stops 2 at 1 1 at 5 1;");
        CHECK.refuses(HEAD + "line a ^sizes 1 stops 2 at 1 1 at 5 1;");
        CHECK.loads("board20 12turn2;line a size1stops2at1 1at5 1;", 1);
    }

    @Says(in = "Terms 5", words = "White space (bytes 32 and 10) may stand ahead of the first token, between any two tokens and behind the last one")
    private static void whiteSpace() {
        CHECK.loads(" \n\n  " + HEAD, 0);
        CHECK.loads(HEAD + " \n\n  ", 0);
        CHECK.loads("board\n20 \n 12\n\nturn\n2\n;\nline\na\nsize\n1\nstops\n2\nat\n1\n1\nat\n5\n1\n;", 1);
        CHECK.loads("board  20  12  turn  2  ;  line  a  size  1  stops  2  at  1  1  at  5  1  ;", 1);
        for (char other : new char[] {0, 9, 11, 12, 13, 31, 33, 133, 160}) {
            CHECK.refuses("^" + other + HEAD);
            CHECK.refuses("board^" + other + "20 12 turn 2;");
            CHECK.refuses(HEAD + "^" + other);
        }
        // it may not stand within a token
        CHECK.refuses("^boa rd 20 12 turn 2;");
        CHECK.refuses("board ^2 0 12 turn 2;");
    }

    @Says(in = "Terms 5", words = "A maximal run of the letters a to z is a word")
    private static void lettersOfWords() {
        CHECK.loads(HEAD + "line az size 1 stops 2 at 1 1 at 5 1;", 1);
        for (char other : new char[] {'`', '{', 'A', 'Z', '@', '[', '_', 0xe4}) {
            CHECK.refuses(HEAD + "line ^" + other + " size 1 stops 2 at 1 1 at 5 1;");
            CHECK.refuses(HEAD + "line a^" + other + "z size 1 stops 2 at 1 1 at 5 1;");
        }
        CHECK.refuses(HEAD + "line a^7 size 1 stops 2 at 1 1 at 5 1;");
    }

    @Says(in = "Terms 5", words = "a word that is quoted in the grammar is a keyword")
    private static void keywordsAreNoNames() {
        for (String keyword : new String[] {"board", "turn", "line", "size", "stops", "at"}) {
            CHECK.refuses(HEAD + "line ^" + keyword + " size 1 stops 2 at 1 1 at 5 1;");
            CHECK.loads(HEAD + "line " + keyword + "s size 1 stops 2 at 1 1 at 5 1;", 1);
            CHECK.loads(HEAD + "line " + keyword.substring(1) + " size 1 stops 2 at 1 1 at 5 1;", 1);
        }
    }

    @Says(in = "Terms 5", words = "is a keyword")
    private static void keywordsForOneAnother() {
        String[] keywords = {"board", "turn", "line", "size", "stops", "at"};
        String text = HEAD + LINE;
        for (String keyword : keywords) {
            for (int place = text.indexOf(keyword); place >= 0; place = text.indexOf(keyword, place + 1)) {
                for (String other : keywords) {
                    if (!other.equals(keyword)) {
                        CHECK.refuses(text.substring(0, place) + "^" + other + text.substring(place + keyword.length()));
                    }
                }
            }
        }
    }

    @Says(in = "Terms 5", words = "any other one of 1 to 6 letters is a NAME")
    private static void lengthsOfNames() {
        CHECK.loads(HEAD + "line z size 1 stops 2 at 1 1 at 5 1;", 1);
        CHECK.loads(HEAD + "line zzzzzz size 1 stops 2 at 1 1 at 5 1;", 1);
        CHECK.refuses(HEAD + "line ^zzzzzzz size 1 stops 2 at 1 1 at 5 1;");
        CHECK.refuses(HEAD + "line^");
        CHECK.refuses(HEAD + "line ^12 size 1 stops 2 at 1 1 at 5 1;");
        CHECK.refuses(HEAD + "line ^; size 1 stops 2 at 1 1 at 5 1;");
        // a word of seven letters is no NAME of its first six
        CHECK.refuses(HEAD + "line abcdef size 1 stops 2 at 1 1 at 5 1;line ^abcdefg size 1 stops 2 at 1 1 at 5 1;");
        CHECK.refuses(HEAD + "line a ^" + "s".repeat(40) + " 1 stops 2 at 1 1 at 5 1;");
    }

    @Says(in = "Terms 5", words = "A maximal run of digits is an INT; it has 1 to 2 digits (perhaps with a leading zero)")
    private static void digitsOfInts() {
        CHECK.loads("board 4 04 turn 0;", 0);
        CHECK.loads("board 09 40 turn 00;", 0);
        CHECK.loads(HEAD + "line a size 01 stops 02 at 01 00 at 05 00;", 1);
        CHECK.refuses("board ^004 12 turn 0;");
        CHECK.refuses("board 20 ^012 turn 0;");
        CHECK.refuses("board 20 12 turn ^000;");
        CHECK.refuses("board 20 12 turn ^" + "0".repeat(30) + ";");
        CHECK.refuses("board ^120 12 turn 0;");
        CHECK.refuses(HEAD + "line a size 1 stops 2 at 1 ^001 at 5 1;");
        // 2^32 + 20 and 2^32 + 2: a number must not wrap round
        CHECK.refuses("board ^4294967316 12 turn 2;");
        CHECK.refuses("board 20 12 turn ^4294967298;");
        for (char other : new char[] {'/', ':', '-', '+'}) {
            CHECK.refuses("board ^" + other + "20 12 turn 0;");
            CHECK.refuses("board 20^" + other + " 12 turn 0;");
        }
    }

    @Says(in = "Terms 5", words = "The semicolon is a token by itself")
    private static void semicolons() {
        CHECK.loads("board 20 12 turn 2;" + LINE, 1);
        CHECK.loads("board 20 12 turn 2 ; " + LINE, 1);
        CHECK.refuses("board 20 12 turn 2;^;");
        CHECK.refuses(HEAD + LINE + "^;");
        CHECK.refuses("^;" + HEAD);
        CHECK.refuses("board 20 12 turn ^;");
    }

    @Says(in = "Terms 5", words = "Nothing else is a token")
    private static void otherBytes() {
        for (char other = 0; other < 256; other++) {
            boolean token = other >= 'a' && other <= 'z' || other >= '0' && other <= '9' || other == ';';
            if (!token && other != ' ' && other != '\n') {
                CHECK.refuses(HEAD + LINE + " ^" + other);
                CHECK.refuses("board 20 12 turn^" + other + "2;");
            }
        }
    }

    // ---- section 5: the grammar

    @Says(in = "Terms 5", words = "setup = \"board\" INT INT \"turn\" INT \";\" { line }")
    private static void grammarOfSetups() {
        CHECK.loads(HEAD, 0);
        CHECK.loads(HEAD + LINE, 1);
        CHECK.loads(eightLines(), 8);
        CHECK.refuses("^turn 20 12 turn 2;");
        CHECK.refuses("board ^turn 2;");
        CHECK.refuses("board 20 ^turn 2;");
        CHECK.refuses("board 20 12 ^12 turn 2;");
        CHECK.refuses("board 20 12 ^2;");
        CHECK.refuses("board 20 12 turn 2 ^2;");
        CHECK.refuses("board 20 12 turn 2 ^" + LINE);
        CHECK.refuses(HEAD + "^" + HEAD);
        CHECK.refuses(HEAD + LINE + "^at 5 5;");
        CHECK.refuses("^" + LINE);
    }

    @Says(in = "Terms 5", words = "line = \"line\" NAME \"size\" INT \"stops\" INT point point { point } \";\"")
    private static void grammarOfLines() {
        CHECK.refuses(HEAD + "^a size 1 stops 2 at 1 1 at 5 1;");
        CHECK.refuses(HEAD + "line ^size 1 stops 2 at 1 1 at 5 1;");
        CHECK.refuses(HEAD + "line a ^b size 1 stops 2 at 1 1 at 5 1;");
        CHECK.refuses(HEAD + "line a ^stops 2 size 1 at 1 1 at 5 1;");
        CHECK.refuses(HEAD + "line a size ^stops 2 at 1 1 at 5 1;");
        CHECK.refuses(HEAD + "line a size ^at 1 1 at 5 1;");
        CHECK.refuses(HEAD + "line a size 1 ^at 1 1 at 5 1;");
        CHECK.refuses(HEAD + "line a size 1 stops ^at 1 1 at 5 1;");
        CHECK.refuses(HEAD + "line a size 1 stops 2^;");
        CHECK.refuses(HEAD + "line a size 1 stops 2 at 1 1^;");
        CHECK.refuses(HEAD + "line a size 1 stops 2 at 1 1 at 5 1 ^line b size 1 stops 2 at 1 1 at 5 1;");
    }

    @Says(in = "Terms 5", words = "point = \"at\" INT INT")
    private static void grammarOfPoints() {
        CHECK.refuses(HEAD + "line a size 1 stops 2 ^1 1 at 5 1;");
        CHECK.refuses(HEAD + "line a size 1 stops 2 at ^at 5 1;");
        CHECK.refuses(HEAD + "line a size 1 stops 2 at 1 ^at 5 1;");
        CHECK.refuses(HEAD + "line a size 1 stops 2 at 1 1 ^5 1;");
        CHECK.refuses(HEAD + "line a size 1 stops 2 at 1 1 at 5^;");
        CHECK.refuses(HEAD + "line a size 1 stops 2 at 1 1 at 5 1 ^1;");
    }

    @Says(in = "Terms 5", words = "The INTs of the board are WIDE and HIGH, those of a point its column and its row")
    private static void orderOfInts() {
        LineDiagram x = Check.of("board 20 12 turn 2;line a size 1 stops 2 at 19 11 at 15 7;");
        due("value(0)", x.value(0), 20);
        due("value(1)", x.value(1), 12);
        due("point(0, 0, true)", x.point(0, 0, true), 19);
        due("point(0, 0, false)", x.point(0, 0, false), 11);
        due("point(0, 1, true)", x.point(0, 1, true), 15);
        due("point(0, 1, false)", x.point(0, 1, false), 7);
    }

    @Says(in = "Terms 5", words = "There are no labels then")
    private static void noLabelsThen() {
        LineDiagram x = Check.of(HEAD + LINE);
        due("labelAll()", x.labelAll(), 2);
        due("couldLabel()", x.couldLabel(), 0);
        Check.write(x, HEAD + LINE);
        due("load()", x.load(), 1);
        due("labels", x.value(6), 0);
        due("cells of labels", x.value(8), 0);
        due("position", x.position(0, 0), -2);
        due("labelAt", x.labelAt(2, 0), -2);
    }

    // ---- section 5: the error position

    @Says(in = "Terms 5", words = "the index of the first byte of the first token that cannot stand where it stands")
    private static void firstTokenThatCannotStand() {
        CHECK.refuses("^7oard 20 12 turn 2;");
        CHECK.refuses("   \n  ^stops 20 12 turn 2;");
        CHECK.refuses("board ^99 99 turn 9;");
        CHECK.refuses(HEAD + LINE + "line ^a size 99 stops 99 at 99 99;");
        CHECK.refuses(HEAD + LINE.replace(" at 5", " at ^20") + "!");
    }

    @Says(in = "Terms 5", words = "it is the length of the text if the text ends too early")
    private static void textsThatEnd() {
        CHECK.refuses("^");
        CHECK.refuses("   ^");
        String text = HEAD + LINE;
        for (int end = 1; end < text.length(); end++) {
            if (text.charAt(end) == ' ' || text.charAt(end) == ';') {
                CHECK.refuses(text.substring(0, end) + "^");
                CHECK.refuses(text.substring(0, end) + "\n \n^");
            }
        }
        // a word that ends too early is another word
        CHECK.refuses("^boar");
    }

    @Says(in = "Terms 5", words = "an INT out of range")
    private static void intsOutOfRange() {
        CHECK.refuses("board ^3 12 turn 2;");
        CHECK.refuses("board ^41 12 turn 2;");
        CHECK.refuses("board 20 ^3 turn 2;");
        CHECK.refuses("board 20 ^41 turn 2;");
        CHECK.refuses("board 20 12 turn ^4;");
        CHECK.refuses(HEAD + "line a size ^0 stops 2 at 1 1 at 5 1;");
        CHECK.refuses(HEAD + "line a size ^11 stops 2 at 1 1 at 5 1;");
        CHECK.refuses(HEAD + "line a size 1 stops ^1 at 1 1 at 5 1;");
        CHECK.refuses(HEAD + "line a size 1 stops ^21 at 1 1 at 5 1;");
        CHECK.refuses(HEAD + "line a size 1 stops 2 at ^20 1 at 5 1;");
        CHECK.refuses(HEAD + "line a size 1 stops 2 at 1 ^12 at 5 1;");
        CHECK.refuses(HEAD + "line a size 1 stops 2 at 1 1 at ^20 1;");
        CHECK.refuses(HEAD + "line a size 1 stops 2 at 1 1 at 1 ^12;");
        CHECK.loads("board 4 40 turn 0;line a size 1 stops 2 at 0 0 at 0 39;", 1);
        CHECK.loads("board 40 4 turn 3;line a size 10 stops 20 at 39 3 at 0 3;", 1);
    }

    @Says(in = "Terms 5", words = "the NAME of a line that an earlier line has")
    private static void namesTwice() {
        CHECK.refuses(HEAD + LINE + "line ^a size 1 stops 2 at 1 1 at 5 1;");
        CHECK.refuses(HEAD + LINE + LINE.replace(" a ", " b ") + "line ^b size 1 stops 2 at 1 1 at 5 1;");
        CHECK.refuses(HEAD + LINE + LINE.replace(" a ", " b ") + "line ^a size 1 stops 2 at 1 1 at 5 1;");
        CHECK.loads(HEAD + LINE + LINE.replace(" a ", " aa "), 2);
        // a name of the lines that are replaced is no hindrance
        LineDiagram x = Check.of(HEAD + LINE);
        Check.write(x, HEAD + LINE);
        due("load of the same", x.load(), 1);
    }

    @Says(in = "Terms 5", words = "the keyword of a ninth line")
    private static void ninthLine() {
        CHECK.refuses(eightLines() + " ^line i size 1 stops 2 at 1 1 at 5 1;");
        CHECK.refuses(eightLines() + "^line");
        CHECK.refuses(eightLines() + "^line a");
    }

    @Says(in = "Terms 5", words = "or of an eleventh point")
    private static void eleventhPoint() {
        String ten = HEAD + "line t size 1 stops 2 at 0 0 at 1 0 at 2 0 at 3 0 at 4 0 at 5 0 at 6 0 at 7 0 at 8 0 at 9 0";
        CHECK.loads(ten + ";", 1);
        CHECK.refuses(ten + " ^at 10 0;");
        CHECK.refuses(ten + " ^at");
        CHECK.refuses(ten.replace("stops 2", "stops 20") + " ^at 10 0;");
    }

    @Says(in = "Terms 5", words = "the second INT of a point to which the line cannot run (section 1; also because of a turn at the point ahead)")
    private static void pointsThatCannotBeReached() {
        CHECK.refuses(HEAD + "line a size 1 stops 2 at 1 1 at 1 ^1;");
        CHECK.refuses(HEAD + "line a size 1 stops 2 at 1 1 at 4 ^2;");
        CHECK.refuses(HEAD + "line a size 1 stops 2 at 1 1 at 5 1 at 6 ^4;");
        CHECK.refuses(HEAD + "line a size 1 stops 2 at 1 1 at 5 1 at 3 ^3;");
        CHECK.refuses(HEAD + "line a size 1 stops 2 at 1 1 at 5 1 at 9 1 at 5 ^1;");
        CHECK.loads(HEAD + "line a size 1 stops 2 at 1 1 at 5 1 at 5 5;", 1);
    }

    @Says(in = "Terms 5", words = "the semicolon of a line that has fewer than STOPS less 1 steps")
    private static void linesThatAreTooShort() {
        CHECK.loads(HEAD + "line a size 1 stops 5 at 1 1 at 5 1;", 1);
        CHECK.refuses(HEAD + "line a size 1 stops 6 at 1 1 at 5 1^;");
        CHECK.refuses(HEAD + "line a size 1 stops 20 at 1 1 at 5 1 at 5 5 \n ^;");
        // what may still grow is not too short yet
        CHECK.loads(HEAD + "line a size 1 stops 9 at 1 1 at 5 1 at 5 5;", 1);
        CHECK.refuses(HEAD + "line a size 1 stops 9 at 1 1 at 5 1^");
    }

    // ---- promise 1

    @Says(in = "Promise 1", words = "a board of 20 columns and 12 rows, TURN 2, without lines")
    private static void newBoard() {
        LineDiagram x = new LineDiagram();
        int[] values = {20, 12, 2, 0, 0, 0, 0, 0, 0, 0, 0, 0};
        for (int i = 0; i < values.length; i++) {
            due("value(" + i + ")", x.value(i), values[i]);
        }
        due("at(19, 11)", x.at(19, 11), 0);
        due("at(20, 11)", x.at(20, 11), -1);
        due("at(19, 12)", x.at(19, 12), -1);
        due("line(0, 0)", x.line(0, 0), -1);
        CHECK.due("setup", Check.setup(x), HEAD);
    }

    @Says(in = "Promise 1", words = "with empty slots and an empty tape")
    private static void newSlotsAndTape() {
        LineDiagram x = new LineDiagram();
        due("restore(0)", x.restore(0), -2);
        due("restore(1)", x.restore(1), -2);
        due("tapeLength()", x.tapeLength(), 0);
        due("truncate(1)", x.truncate(1), -1);
        due("truncate(0)", x.truncate(0), 0);
    }

    // ---- promise 2

    @Says(in = "Promise 2", words = "the four bytes of a, most significant byte first, then those of b, c, d and e")
    private static void orderOfBytes() {
        for (int place = 0; place < 20; place++) {
            for (int other : new int[] {1, 127, 128, 255}) {
                int[] ints = {0x20202020, 0x20202020, 0x20202020, 0x20202020, 0x20202020};
                int shift = 24 - place % 4 * 8;
                ints[place / 4] = ints[place / 4] & ~(255 << shift) | other << shift;
                LineDiagram x = new LineDiagram();
                due("append", x.append(ints[0], ints[1], ints[2], ints[3], ints[4]), 20);
                due("load()", x.load(), -1);
                due("errorPosition() of byte " + other, x.errorPosition(), place);
            }
        }
    }

    @Says(in = "Promise 2", words = "`a`: bytes 0 to 3\n`b`: bytes 4 to 7\n`c`: bytes 8 to 11\n`d`: bytes 12 to 15\n`e`: bytes 16 to 19")
    private static void bytesOfEachInt() {
        LineDiagram x = new LineDiagram();
        due("append of \"boar\" \"d 4 \" \"40 t\" \"urn \" \"0;;;\"", x.append(0x626f6172, 0x64203420, 0x34302074, 0x75726e20, 0x303b3b3b), 20);
        due("truncate(2)", x.truncate(2), 18);
        due("load()", x.load(), 0);
        CHECK.due("setup", Check.setup(x), "board 4 40 turn 0;");
    }

    @Says(in = "Promise 2", words = "Returns the new length of the tape")
    private static void lengthBehindAppend() {
        LineDiagram x = new LineDiagram();
        for (int i = 1; i <= 50; i++) {
            due("append number " + i, x.append(0, 0, 0, 0, 0), 20 * i);
        }
        x = spaces(7);
        due("append behind 7", x.append(0, 0, 0, 0, 0), 27);
    }

    @Says(in = "Promise 2", words = "INVALID if it would exceed 1000 bytes")
    private static void fullTape() {
        due("append to 1000", spaces(980).append(0, 0, 0, 0, 0), 1000);
        due("append to 1001", spaces(981).append(0, 0, 0, 0, 0), -1);
        due("append to 1019", spaces(999).append(0, 0, 0, 0, 0), -1);
        due("append to 1020", spaces(1000).append(0, 0, 0, 0, 0), -1);
    }

    @Says(in = "Promise 2", words = "(nothing is appended)")
    private static void nothingIsAppended() {
        LineDiagram x = spaces(981);
        x.append(0, 0, 0, 0, 0);
        due("tapeLength()", x.tapeLength(), 981);
        due("load()", x.load(), -1);
        due("errorPosition()", x.errorPosition(), 981);
        x = spaces(1000);
        x.append(0, 0, 0, 0, 0);
        due("tapeLength()", x.tapeLength(), 1000);
        due("truncate(20)", x.truncate(20), 980);
        due("append", x.append(0x20202020, 0x20202020, 0x20202020, 0x20202020, 0x20202020), 1000);
        due("load()", x.load(), -1);
        due("errorPosition()", x.errorPosition(), 1000);
    }

    // ---- promise 3

    @Says(in = "Promise 3", words = "Removes the last bytes of the tape")
    private static void lastBytes() {
        LineDiagram x = new LineDiagram();
        Check.write(x, HEAD + "!!!");
        due("truncate(3)", x.truncate(3), 19);
        due("load()", x.load(), 0);
        Check.write(x, "!!!");
        x.truncate(3);
        Check.write(x, HEAD);
        due("load() of what came behind", x.load(), 0);
    }

    @Says(in = "Promise 3", words = "number of bytes, 0 to the length of the tape")
    private static void truncateRange() {
        LineDiagram x = spaces(20);
        due("truncate(0)", x.truncate(0), 20);
        due("truncate(1)", x.truncate(1), 19);
        due("truncate(19)", x.truncate(19), 0);
        due("truncate(0) of an empty tape", x.truncate(0), 0);
        due("truncate(1000) of a full tape", spaces(1000).truncate(1000), 0);
    }

    @Says(in = "Promise 3", words = "INVALID if n is out of range")
    private static void truncateOutOfRange() {
        LineDiagram x = spaces(20);
        for (int n : new int[] {21, -1, 1000, Integer.MAX_VALUE, Integer.MIN_VALUE}) {
            due("truncate(" + n + ")", x.truncate(n), -1);
            due("tapeLength()", x.tapeLength(), 20);
        }
        due("truncate(1) of an empty tape", new LineDiagram().truncate(1), -1);
        due("truncate(1001) of a full tape", spaces(1000).truncate(1001), -1);
    }

    // ---- promise 4

    @Says(in = "Promise 4", words = "The tape is empty afterwards")
    private static void emptyTapeAfterwards() {
        LineDiagram x = new LineDiagram();
        Check.write(x, HEAD);
        due("load() that succeeds", x.load(), 0);
        due("tapeLength()", x.tapeLength(), 0);
        Check.write(x, "boa");
        due("load() that fails", x.load(), -1);
        due("tapeLength()", x.tapeLength(), 0);
        due("load() of an empty tape", x.load(), -1);
        due("tapeLength()", x.tapeLength(), 0);
        Check.write(x, HEAD);
        due("load() of what came behind", x.load(), 0);
        // a shorter text, with white space ahead, behind one that failed at its end
        Check.write(x, HEAD + LINE + "!");
        due("load() that fails", x.load(), -1);
        Check.write(x, " \n board 4 4 turn 0;");
        due("load() of a shorter text", x.load(), 0);
    }

    @Says(in = "Promise 4", words = "On success everything is replaced, the slots are empty, and nothing can be undone")
    private static void everythingIsReplaced() {
        LineDiagram x = Check.of(HEAD + LINE + LINE.replace(" a ", " b "));
        x.labelAll();
        x.keep(0);
        x.keep(1);
        Check.write(x, "board 9 8 turn 1;line c size 3 stops 3 at 0 5 at 4 5;");
        due("load()", x.load(), 1);
        CHECK.due("setup", Check.setup(x), "board 9 8 turn 1;line c size 3 stops 3 at 0 5 at 4 5;");
        CHECK.due("picture", Check.picture(x), ".........\n".repeat(5) + "o0o0o....\n" + ".........\n".repeat(2));
        due("restore(0)", x.restore(0), -2);
        due("restore(1)", x.restore(1), -2);
        due("undo()", x.undo(), -1);
        Check.write(x, HEAD);
        due("load() without lines", x.load(), 0);
        due("value(3)", x.value(3), 0);
        due("value(7)", x.value(7), 0);
    }

    @Says(in = "Promise 4", words = "On an error everything but the tape and the error position stays")
    private static void everythingStays() {
        String small = "board 8 4 turn 2;" + LINE + LINE.replace(" a ", " b ");
        // each text fails at its end, when all that it could replace has been read
        for (String text : new String[] {"", "board 9 8 turn 1", HEAD + LINE.replace(" a ", " c ") + "!", eightLines() + ";"}) {
            LineDiagram x = Check.of(small);
            x.label(0, 0, 7);
            x.keep(1);
            x.label(0, 1, 7);
            String picture = Check.picture(x);
            Check.write(x, text);
            due("load(" + text + ")", x.load(), -1);
            CHECK.due("setup", Check.setup(x), small);
            CHECK.due("picture", Check.picture(x), picture);
            due("labels", x.value(6), 2);
            due("restore(0)", x.restore(0), -2);
            due("restore(1)", x.restore(1), 1);
            due("undo()", x.undo(), 2);
            due("labels", x.value(6), 2);
            due("undo()", x.undo(), 1);
            due("undo()", x.undo(), 0);
            due("labels", x.value(6), 0);
        }
    }

    /** What an object with lines a and b answers, of three and of two stations. */
    private static String answers(LineDiagram x) {
        StringBuilder all = new StringBuilder();
        for (int what = 0; what < 12; what++) {
            all.append(" value ").append(x.value(what));
        }
        for (int line = 0; line < 2; line++) {
            all.append("\nuneven ").append(x.uneven(line)).append(" meanGap ").append(x.meanGap(line));
            for (int what = 0; what < 9; what++) {
                all.append(" line ").append(x.line(line, what));
            }
            for (int point = 0; point < 3; point++) {
                all.append(" point ").append(x.point(line, point, true)).append(' ').append(x.point(line, point, false));
                all.append(" turn ").append(x.turn(line, point));
            }
            for (int station = 0; station < 3; station++) {
                for (int what = 0; what < 6; what++) {
                    all.append(" station ").append(x.station(line, station, what));
                }
                all.append(" position ").append(x.position(line, station)).append(" free ").append(x.free(line, station));
            }
        }
        all.append("\ncrookedest ").append(x.crookedest()).append(" nearest ").append(x.nearest(0, 7));
        for (int what = 0; what < 5; what++) {
            all.append(" both ").append(x.both(0, 1, what));
        }
        all.append(" rides ").append(x.rides(0, 0, 1, 1)).append(" changes ").append(x.changes(0, 0, 1, 1));
        all.append(" stuck ").append(x.stuck()).append(" labelled ").append(x.labelled());
        for (String name : new String[] {"a", "b", "c", "z"}) {
            all.append(" named ").append(x.named(Check.letters(name)));
        }
        // what would be comes last, as an object that tries it out could mend by that what it had lost
        all.append(" best ").append(x.bestMove(0, 2)).append(" could ").append(x.couldLabel());
        return all.toString();
    }

    @Says(in = "Promise 4", words = "On an error everything but the tape and the error position stays")
    private static void answersStay() {
        String lines = "line a size 2 stops 3 at 1 1 at 4 1 at 6 3;line b size 1 stops 2 at 2 7 at 8 1;";
        String other = "board 40 40 turn 3;line z size 9 stops 2 at 0 0 at 5 5 at 0 5;line";
        for (String text : new String[] {"", other, HEAD + "line", HEAD + LINE.replace(" a ", " c ") + "!", eightLines() + ";"}) {
            LineDiagram x = Check.of("board 9 8 turn 1;" + lines);
            String before = answers(x);
            Check.write(x, text);
            due("load(" + text + ")", x.load(), -1);
            CHECK.due("answers", answers(x), before);
            x = Check.of("board 9 8 turn 1;" + lines);
            x.label(0, 0, 7);
            Check.write(x, text);
            due("load(" + text + ")", x.load(), -1);
            due("insert that turns by 3 eighths", x.insert(0, 3, 6, 1), -3);
            due("moveBend that turns by 3 eighths", x.moveBend(0, 2, 2, 3), -3);
            due("ifMoved that turns by 3 eighths", x.ifMoved(0, 2, 2, 3, 0), -3);
            due("moveBend off the board", x.moveBend(0, 0, 1, 8), -1);
            due("bestMove", x.bestMove(0, 0), 0);
            due("undo()", x.undo(), 0);
        }
    }

    @Says(in = "Promise 4", words = "Returns the number of lines; INVALID on an error")
    private static void answersOfLoad() {
        CHECK.loads(HEAD, 0);
        CHECK.loads(HEAD + LINE, 1);
        CHECK.loads(eightLines(), 8);
        due("load() of an empty tape", new LineDiagram().load(), -1);
        due("load() of spaces", spaces(1000).load(), -1);
        CHECK.refuses(eightLines() + "^line");
    }

    // ---- promise 5

    @Says(in = "Promise 5", words = "Returns the error position of the latest load")
    private static void errorOfTheLatestLoad() {
        LineDiagram x = new LineDiagram();
        Check.write(x, "board 1");
        x.load();
        due("errorPosition() of the first one", x.errorPosition(), 6);
        Check.write(x, "line");
        due("errorPosition() ahead of the second one", x.errorPosition(), 6);
        x.load();
        due("errorPosition() of the second one", x.errorPosition(), 0);
        Check.write(x, " board ");
        x.load();
        due("errorPosition() of the third one", x.errorPosition(), 7);
        due("errorPosition() again", x.errorPosition(), 7);
    }

    @Says(in = "Promise 5", words = "NOT_FOUND if that load succeeded or there was no load")
    private static void noErrorPosition() {
        LineDiagram x = new LineDiagram();
        due("errorPosition() without a load", x.errorPosition(), -2);
        Check.write(x, "x");
        due("errorPosition() ahead of a load", x.errorPosition(), -2);
        x.load();
        due("errorPosition() behind a load that fails", x.errorPosition(), 0);
        Check.write(x, HEAD);
        x.load();
        due("errorPosition() behind a load that succeeds", x.errorPosition(), -2);
    }

    // ---- promise 48

    @Says(in = "Promise 48", words = "Returns the length of the tape")
    private static void tapeLengths() {
        LineDiagram x = new LineDiagram();
        due("tapeLength() of an empty tape", x.tapeLength(), 0);
        x.append(0, 0, 0, 0, 0);
        due("tapeLength() behind append", x.tapeLength(), 20);
        x.truncate(1);
        due("tapeLength() behind truncate", x.tapeLength(), 19);
        x.load();
        due("tapeLength() behind load", x.tapeLength(), 0);
        due("tapeLength() of a full tape", spaces(1000).tapeLength(), 1000);
    }
}
