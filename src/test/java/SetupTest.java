/** Promises 1 to 5 and 48, and the setup text of section 5. */
public final class SetupTest {
    private static final Check CHECK = new Check("SetupTest");
    private static final String HEAD = "board 20 12 turn 2;";
    private static final String LINE = "line a size 1 stops 2 at 1 1 at 5 1;";

    public static void main(String[] args) {
        newObject();
        tape();
        loads();
        boardErrors();
        lineErrors();
        tokenErrors();
        textsThatEndTooEarly();
        replacing();
        replacingByTheSame();
        failing();
        CHECK.end();
    }

    private static void newObject() {
        LineDiagram x = new LineDiagram();
        int[] values = {20, 12, 2, 0, 0, 0, 0, 0, 0, 0, 0, 0};
        for (int i = 0; i < values.length; i++) {
            CHECK.due("value(" + i + ") of a new object", x.value(i), values[i]);
        }
        CHECK.due("setup of a new object", Check.setup(x), HEAD);
        CHECK.due("picture of a new object", Check.picture(x), "....................\n".repeat(12));
        CHECK.due("restore(0) of a new object", x.restore(0), -2);
        CHECK.due("restore(1) of a new object", x.restore(1), -2);
        CHECK.due("undo() of a new object", x.undo(), -1);
        CHECK.due("tapeLength() of a new object", x.tapeLength(), 0);
        CHECK.due("errorPosition() of a new object", x.errorPosition(), -2);
        CHECK.due("truncate(1) of a new object", x.truncate(1), -1);
        CHECK.due("at(0, 0) of a new object", x.at(0, 0), 0);
        CHECK.due("at(20, 0) of a new object", x.at(20, 0), -1);
    }

    private static void tape() {
        LineDiagram x = new LineDiagram();
        for (int i = 1; i <= 50; i++) {
            CHECK.due("append number " + i, x.append(i, -i, 0, i, 7), 20 * i);
        }
        CHECK.due("append beyond 1000", x.append(1, 2, 3, 4, 5), -1);
        CHECK.due("tapeLength behind it", x.tapeLength(), 1000);
        CHECK.due("truncate(-1)", x.truncate(-1), -1);
        CHECK.due("truncate(1001)", x.truncate(1001), -1);
        CHECK.due("truncate(least int)", x.truncate(Integer.MIN_VALUE), -1);
        CHECK.due("truncate(0)", x.truncate(0), 1000);
        CHECK.due("truncate(19)", x.truncate(19), 981);
        CHECK.due("append that would make 1001", x.append(1, 2, 3, 4, 5), -1);
        CHECK.due("truncate(1)", x.truncate(1), 980);
        CHECK.due("append that makes 1000", x.append(1, 2, 3, 4, 5), 1000);
        CHECK.due("truncate(1000)", x.truncate(1000), 0);
        CHECK.due("tapeLength of an empty tape", x.tapeLength(), 0);
        // "board 4 40 turn 0;;;" in five ints: a byte in a wrong place would be an error
        CHECK.due("append of a text", x.append(0x626f6172, 0x64203420, 0x34302074, 0x75726e20, 0x303b3b3b), 20);
        CHECK.due("truncate(2)", x.truncate(2), 18);
        CHECK.due("load", x.load(), 0);
        CHECK.due("its setup", Check.setup(x), "board 4 40 turn 0;");
        CHECK.due("tapeLength behind load", x.tapeLength(), 0);
    }

    /** A text that is to be loaded, with the setup text that it stands for. */
    private static void good(String text, int lines, String setup) {
        LineDiagram x = new LineDiagram();
        Check.write(x, text);
        CHECK.due("load(" + text + ")", x.load(), lines);
        CHECK.due("errorPosition", x.errorPosition(), -2);
        CHECK.due("tapeLength", x.tapeLength(), 0);
        CHECK.due("setup", Check.setup(x), setup);
    }

    /** A text with a ^ ahead of the first token that cannot stand. */
    private static void bad(String marked) {
        int place = marked.indexOf('^');
        String text = marked.replace("^", "");
        LineDiagram x = new LineDiagram();
        Check.write(x, text);
        CHECK.due("load(" + text + ")", x.load(), -1);
        CHECK.due("errorPosition of " + text, x.errorPosition(), place);
        CHECK.due("tapeLength", x.tapeLength(), 0);
        CHECK.due("setup", Check.setup(x), HEAD);
    }

    private static void loads() {
        good("board 4 40 turn 0;", 0, "board 4 40 turn 0;");
        good("board 40 4 turn 3;", 0, "board 40 4 turn 3;");
        good("board04 09turn01;", 0, "board 4 9 turn 1;");
        good(" \n board\n20\n\n12 turn 2 ; \n", 0, HEAD);
        good(HEAD + LINE, 1, HEAD + LINE);
        good(HEAD + "line a\nsize01stops02at01 01at05 01;", 1, HEAD + LINE);
        good(HEAD + "line boards size 10 stops 5 at 19 11 at 15 11;", 1, HEAD + "line boards size 10 stops 5 at 19 11 at 15 11;");
        good(HEAD + "line att size 1 stops 20 at 0 0 at 19 0;", 1, HEAD + "line att size 1 stops 20 at 0 0 at 19 0;");
        String ten = "line ten size 1 stops 2 at 0 0 at 1 0 at 2 0 at 3 0 at 4 0 at 5 0 at 6 0 at 7 0 at 8 0 at 9 0;";
        good(HEAD + ten, 1, HEAD + ten);
        StringBuilder eight = new StringBuilder(HEAD);
        for (char name = 'a'; name < 'i'; name++) {
            eight.append("line ").append(name).append(" size 1 stops 2 at 1 1 at 5 1;");
        }
        good(eight.toString(), 8, eight.toString());
        bad(eight + "^line i size 1 stops 2 at 1 1 at 5 1;");
        bad(eight + "^;");
    }

    private static void boardErrors() {
        bad("^");
        bad("  \n^");
        bad("board^");
        bad("board  ^");
        bad("^line a");
        bad("^boards 20 12 turn 2;");
        bad("^20 12");
        bad("board ^turn 2;");
        bad("board ^3 12 turn 2;");
        bad("board ^41 12 turn 2;");
        bad("board 20 ^3 turn 2;");
        bad("board 20 ^41 turn 2;");
        bad("board 20 ^turn 2;");
        bad("board 20 12 ^2;");
        bad("board 20 12 turn ^4;");
        bad("board 20 12 turn ^;");
        bad("board 20 12 turn 2^");
        bad("board 20 12 turn 2 ^line a");
        bad(HEAD + "^;");
        bad(HEAD + " ^board 20 12 turn 2;");
        bad(HEAD + "^a size 1 stops 2 at 1 1 at 5 1;");
        bad(HEAD + "^12");
    }

    private static void lineErrors() {
        bad(HEAD + "^linea size 1 stops 2 at 1 1 at 5 1;");
        bad(HEAD + "line ^size 1 stops 2 at 1 1 at 5 1;");
        bad(HEAD + "line ^board size 1 stops 2 at 1 1 at 5 1;");
        bad(HEAD + "line ^at size 1 stops 2 at 1 1 at 5 1;");
        bad(HEAD + "line ^7 size 1 stops 2 at 1 1 at 5 1;");
        bad(HEAD + "line ^abcdefg size 1 stops 2 at 1 1 at 5 1;");
        bad(HEAD + LINE + "line ^a size 1 stops 2 at 1 1 at 5 1;");
        bad(HEAD + "line a ^stops 2 at 1 1 at 5 1;");
        bad(HEAD + "line a size ^0 stops 2 at 1 1 at 5 1;");
        bad(HEAD + "line a size ^11 stops 2 at 1 1 at 5 1;");
        bad(HEAD + "line a size ^at 1 1 at 5 1;");
        bad(HEAD + "line a size 1 stops ^at 1 1 at 5 1;");
        bad(HEAD + "line a size 1 ^at 1 1 at 5 1;");
        bad(HEAD + "line a size 1 stops ^1 at 1 1 at 5 1;");
        bad(HEAD + "line a size 1 stops ^21 at 1 1 at 5 1;");
        bad(HEAD + "line a size 1 stops 2^;");
        bad(HEAD + "line a size 1 stops 2 at 1 1^;");
        bad(HEAD + "line a size 1 stops 2 at 1 1 ^line");
        bad(HEAD + "line a size 1 stops 2 at 1 1^");
        bad(HEAD + "line a size 1 stops 2 at 1 1 at 5 1^");
        bad(HEAD + "line a size 1 stops 2 at ^20 1 at 5 1;");
        bad(HEAD + "line a size 1 stops 2 at 1 ^12 at 5 1;");
        bad(HEAD + "line a size 1 stops 2 at 1 1 at ^20 1;");
        bad(HEAD + "line a size 1 stops 2 at 1 1 at 5 ^;");
        bad(HEAD + "line a size 1 stops 2 at 1 1 at 1 ^1;");
        bad(HEAD + "line a size 1 stops 2 at 1 1 at 4 ^2;");
        bad(HEAD + "line a size 1 stops 2 at 1 1 at 5 1 at 3 ^1;");
        bad(HEAD + "line a size 1 stops 2 at 1 1 at 5 1 at 3 ^3;");
        bad("board 20 12 turn 0;line a size 1 stops 2 at 1 1 at 5 1 at 6 ^2;");
        bad("board 20 12 turn 3;line a size 1 stops 2 at 1 1 at 5 1 at 1 ^1;");
        bad(HEAD + "line a size 1 stops 2 at 1 1 at 5 1 at ^;");
        bad(HEAD + "line a size 1 stops 2 at 1 1 at 5 1 at 7 ^;");
        bad(HEAD + "line a size 1 stops 6 at 1 1 at 5 1^;");
        bad(HEAD + "line a size 1 stops 5 at 1 1 at 4 4^;");
        bad(HEAD + "line t size 1 stops 2 at 0 0 at 1 0 at 2 0 at 3 0 at 4 0 at 5 0 at 6 0 at 7 0 at 8 0 at 9 0 ^at 10 0;");
    }

    private static void tokenErrors() {
        bad("^Board 20 12 turn 2;");
        bad("board^\t20 12 turn 2;");
        bad("board ^020 12 turn 2;");
        bad("board 20 12 turn ^002;");
        bad("board ^-4 12 turn 2;");
        bad("board 20 12 turn 2^,");
        bad("^\u00c8");
        bad("^\u0000");
        bad(HEAD + "^\u0000");
        bad(HEAD + LINE + " ^\u0000");
        bad(HEAD + "^.");
        bad(HEAD + "line a^B size 1 stops 2 at 1 1 at 5 1;");
        bad(HEAD + "line a size 1 stops 2 at 1 ^111 at 5 1;");
        bad(HEAD + "line a ^sizes 1 stops 2 at 1 1 at 5 1;");
        bad(HEAD + "line a size 1 stops 2 at 1 1 ^att 5 1;");
    }

    /** A text that ends behind any token but a semicolon has its error at its end. */
    private static void textsThatEndTooEarly() {
        String text = HEAD + LINE;
        for (int end = 1; end < text.length(); end++) {
            boolean behindToken = text.charAt(end) == ' ' || text.charAt(end) == ';';
            if (behindToken) {
                bad(text.substring(0, end) + "^");
                bad(text.substring(0, end) + " \n ^");
            }
        }
    }

    private static void replacing() {
        LineDiagram x = Check.of(HEAD + LINE);
        x.label(0, 0, 7);
        x.keep(0);
        x.keep(1);
        Check.write(x, "board 9 8 turn 1;line b size 3 stops 3 at 0 0 at 4 0;");
        CHECK.due("second load", x.load(), 1);
        CHECK.due("labels behind it", x.value(6), 0);
        CHECK.due("setup behind it", Check.setup(x), "board 9 8 turn 1;line b size 3 stops 3 at 0 0 at 4 0;");
        CHECK.due("restore(0) behind it", x.restore(0), -2);
        CHECK.due("restore(1) behind it", x.restore(1), -2);
        CHECK.due("undo behind it", x.undo(), -1);
        CHECK.due("named(a) behind it", x.named(Check.letters("a")), -2);
        CHECK.due("at(2, 1) behind it", x.at(2, 1), 0);
    }

    /** Labels that were there do not come back with the same text, whatever was asked ahead of it. */
    private static void replacingByTheSame() {
        LineDiagram x = Check.of(HEAD + LINE);
        x.label(0, 0, 7);
        CHECK.due("couldLabel ahead of load", x.couldLabel(), 1);
        Check.write(x, HEAD + LINE);
        CHECK.due("load of the same", x.load(), 1);
        CHECK.due("labels behind it", x.value(6), 0);
        CHECK.due("position behind it", x.position(0, 0), -2);
        CHECK.due("labelAt behind it", x.labelAt(1, 2), -2);
    }

    private static void failing() {
        LineDiagram x = Check.of(HEAD + LINE);
        x.label(0, 0, 7);
        x.keep(1);
        Check.write(x, "board 9 8 turn 1;line b size 3 stops 3 at 0 0 at 4 0");
        CHECK.due("load that fails", x.load(), -1);
        CHECK.due("its errorPosition", x.errorPosition(), 52);
        CHECK.due("position behind it", x.position(0, 0), 7);
        CHECK.due("setup behind it", Check.setup(x), HEAD + LINE);
        CHECK.due("restore(1) behind it", x.restore(1), 1);
        CHECK.due("undo behind it", x.undo(), 1);
        CHECK.due("errorPosition behind undo", x.errorPosition(), 52);
        CHECK.due("load of an empty tape", x.load(), -1);
        CHECK.due("its errorPosition", x.errorPosition(), 0);
        Check.write(x, HEAD);
        CHECK.due("load that succeeds", x.load(), 0);
        CHECK.due("its errorPosition", x.errorPosition(), -2);
    }
}
