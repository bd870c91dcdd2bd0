/** Promises 41 to 47: rates, names, the picture and the setup text. */
public final class TextsTest {
    private static final Check CHECK = new Check("TextsTest");
    private static final String STAR = "board 12 8 turn 3;line a size 1 stops 3 at 0 0 at 6 6;"
        + "line b size 2 stops 2 at 7 0 at 0 7;line c size 3 stops 2 at 0 1 at 8 1;";

    public static void main(String[] args) {
        meanGap();
        labelled();
        named();
        picture();
        setup();
        CHECK.end();
    }

    private static void meanGap() {
        LineDiagram x = Check.of("board 12 8 turn 3;line a size 2 stops 4 at 0 0 at 10 0;line b size 2 stops 3 at 0 1 at 7 1;");
        CHECK.due("meanGap(0)", x.meanGap(0), 10f / 3f);
        CHECK.due("meanGap(1)", x.meanGap(1), 3.5f);
        x.setStops(1, 8);
        CHECK.due("meanGap(1)", x.meanGap(1), 1f);
        x.setStops(1, 2);
        CHECK.due("meanGap(1) of two stations", x.meanGap(1), 7f);
        CHECK.due("meanGap(-1)", x.meanGap(-1), -1f);
        CHECK.due("meanGap(2)", x.meanGap(2), -1f);
        CHECK.due("meanGap of a new object", new LineDiagram().meanGap(0), -1f);
    }

    private static void labelled() {
        LineDiagram x = Check.of(STAR);
        CHECK.due("labelled of a new object", new LineDiagram().labelled(), 0);
        CHECK.due("labelled", x.labelled(), 0);
        x.label(1, 0, 0);
        CHECK.due("labelled", x.labelled(), 1.0 / 7.0);
        x.label(2, 1, 7);
        CHECK.due("labelled", x.labelled(), 2.0 / 7.0);
        x.setStops(0, 2);
        CHECK.due("labelled", x.labelled(), 2.0 / 6.0);
    }

    private static void named() {
        LineDiagram x = Check.of("board 9 9 turn 2;line a size 1 stops 2 at 0 0 at 5 0;line zz size 1 stops 2 at 0 1 at 5 1;"
            + "line abcdef size 1 stops 2 at 0 2 at 5 2;line abcde size 1 stops 2 at 0 3 at 5 3;");
        String[] names = {"a", "zz", "abcdef", "abcde"};
        for (int i = 0; i < names.length; i++) {
            CHECK.due("named(" + names[i] + ")", x.named(Check.letters(names[i])), i);
        }
        for (String none : new String[] {"b", "z", "aa", "abcdeg", "zzzzzz", "board", "at"}) {
            CHECK.due("named(" + none + ")", x.named(Check.letters(none)), -2);
        }
        int a = 1 << 25;
        int[] wrong = {0, -1, Integer.MIN_VALUE, Integer.MAX_VALUE, a | 1 << 30, a | 1 << 31, 27 << 25, 31 << 25,
            a | 27 << 20, a | 31, a | 1 << 15, 1 << 20, 1, a | 1, a | 1 << 20 | 1 << 10, a | 2 << 20 | 3 << 15 | 4 << 10 | 5 << 5 | 27};
        for (int w : wrong) {
            CHECK.due("named(" + w + ")", x.named(w), -1);
        }
        CHECK.due("named of a new object", new LineDiagram().named(a), -2);
    }

    private static void picture() {
        LineDiagram x = Check.of(STAR);
        x.label(1, 0, 0);
        String picture = "o......o==..\n"
            + "o+2222+2o...\n"
            + "..0..1......\n"
            + "...o1.......\n"
            + "...10.......\n"
            + "..1..0......\n"
            + ".1....o.....\n"
            + "o...........\n";
        CHECK.due("picture", Check.picture(x), picture);
        CHECK.due("pictureLength", x.pictureLength(), 13 * 8);
        for (int i = 0; i < 13 * 8; i++) {
            CHECK.due("pictureByte(" + i + ")", x.pictureByte(i), picture.charAt(i));
        }
        CHECK.due("pictureByte(104)", x.pictureByte(104), -2);
        CHECK.due("pictureByte(-1)", x.pictureByte(-1), -1);
        CHECK.due("pictureByte(greatest int)", x.pictureByte(Integer.MAX_VALUE), -2);
        CHECK.due("pictureByte(least int)", x.pictureByte(Integer.MIN_VALUE), -1);
        // side by side: a crossing at each cell that is no place
        x = Check.of("board 8 4 turn 2;line a size 1 stops 2 at 0 1 at 5 1;line b size 1 stops 2 at 2 1 at 7 1;");
        CHECK.due("picture", Check.picture(x), "........\no0o++o1o\n........\n........\n");
        CHECK.due("pictureLength of a new object", new LineDiagram().pictureLength(), 252);
        CHECK.due("pictureByte(251) of a new object", new LineDiagram().pictureByte(251), 10);
        CHECK.due("pictureByte(252) of a new object", new LineDiagram().pictureByte(252), -2);
        x = Check.of("board 40 40 turn 2;");
        CHECK.due("pictureLength of the largest board", x.pictureLength(), 1640);
        CHECK.due("pictureByte(1638)", x.pictureByte(1638), '.');
        CHECK.due("pictureByte(1639)", x.pictureByte(1639), 10);
        CHECK.due("pictureByte(1640)", x.pictureByte(1640), -2);
    }

    private static void setup() {
        LineDiagram x = Check.of(STAR);
        CHECK.due("setupLength", x.setupLength(), STAR.length());
        CHECK.due("setup", Check.setup(x), STAR);
        CHECK.due("setupByte beyond it", x.setupByte(STAR.length()), -2);
        CHECK.due("setupByte(-1)", x.setupByte(-1), -1);
        CHECK.due("setupByte(greatest int)", x.setupByte(Integer.MAX_VALUE), -2);
        CHECK.due("setupByte(least int)", x.setupByte(Integer.MIN_VALUE), -1);
        x.label(1, 0, 0);
        x.setSize(0, 10);
        x.setStops(0, 7);
        x.moveBend(2, 1, 11, 1);
        x.reverse(1);
        String changed = "board 12 8 turn 3;line a size 10 stops 7 at 0 0 at 6 6;"
            + "line b size 2 stops 2 at 0 7 at 7 0;line c size 3 stops 2 at 0 1 at 11 1;";
        CHECK.due("setup behind changes", Check.setup(x), changed);
        CHECK.due("setupLength behind changes", x.setupLength(), changed.length());
        x.setSize(0, 9);
        CHECK.due("setupByte right behind a change", x.setupByte(STAR.indexOf("size 1") + 5), '9');
        x.undo();
        // what it tells can be loaded again
        CHECK.due("setup of that setup", Check.setup(Check.of(changed)), changed);
        StringBuilder longest = new StringBuilder("board 40 40 turn 3;");
        for (char name = 'a'; name < 'i'; name++) {
            longest.append("line aaaaa").append(name).append(" size 10 stops 10 at 10 10");
            for (int i = 1; i < 10; i++) {
                longest.append(" at 1").append(i).append(" 10");
            }
            longest.append(";");
        }
        String text = longest.toString();
        CHECK.due("its length", Check.of(text).setupLength(), 971);
        // an object answers 512 calls, 51 of them to load this text, so three of them read it in thirds
        for (int begin = 0; begin < 971; begin += 324) {
            x = Check.of(text);
            for (int i = begin; i < Math.min(begin + 324, 971); i++) {
                CHECK.due("setupByte(" + i + ") of eight lines of ten points", x.setupByte(i), text.charAt(i));
            }
        }
    }
}
