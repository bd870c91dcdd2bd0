import java.lang.reflect.Constructor;
import java.lang.reflect.Field;
import java.lang.reflect.Method;
import java.lang.reflect.Modifier;
import java.util.TreeSet;

/** The public face, no more and no less, and calls with any arguments, which never throw. */
public final class FaceTest {
    private static final Check CHECK = new Check("FaceTest");
    private static final String METHODS = "int append(int, int, int, int, int);int truncate(int);int load();int errorPosition();"
        + "int moveBend(int, int, int, int);int insert(int, int, int, int);int removePoint(int, int);int reverse(int);"
        + "int setStops(int, int);int setSize(int, int);int label(int, int, int);int unlabel(int, int);int dodge(int, int);"
        + "int labelAll();int keep(int);int restore(int);int undo();int value(int);int line(int, int);"
        + "int point(int, int, boolean);int turn(int, int);int station(int, int, int);int at(int, int);int linesAt(int, int);"
        + "int uneven(int);int crookedest();int nearest(int, int);int both(int, int, int);int crossing(int);"
        + "int rides(int, int, int, int);int changes(int, int, int, int);int position(int, int);int why(int, int, int);"
        + "int free(int, int);int labelAt(int, int);int stuck();int ifMoved(int, int, int, int, int);int bestMove(int, int);"
        + "int couldLabel();float meanGap(int);double labelled();int named(int);int pictureLength();int pictureByte(int);"
        + "int setupLength();int setupByte(int);int tapeLength()";
    private static final int[] EXTREMES = {Integer.MIN_VALUE, -1, 0, 1, 2, 3, 7, 8, 9, 19, 20, 40, Integer.MAX_VALUE};

    public static void main(String[] args) throws Exception {
        methods();
        constants();
        everyArgument();
        CHECK.end();
    }

    private static void methods() {
        TreeSet<String> wanted = new TreeSet<>(), found = new TreeSet<>();
        for (String method : METHODS.split(";")) {
            wanted.add(method);
        }
        TreeSet<String> names = new TreeSet<>();
        for (Method m : LineDiagram.class.getDeclaredMethods()) {
            if (!Modifier.isPrivate(m.getModifiers())) {
                String parameters = "";
                for (Class<?> type : m.getParameterTypes()) {
                    parameters += (parameters.isEmpty() ? "" : ", ") + type;
                }
                found.add(m.getReturnType() + " " + m.getName() + "(" + parameters + ")");
                names.add(m.getName());
            }
        }
        CHECK.due("the methods", String.join("\n", found), String.join("\n", wanted));
        for (Method m : LineDiagram.class.getDeclaredMethods()) {
            if (Modifier.isPrivate(m.getModifiers())) {
                CHECK.due("a private method named " + m.getName(), names.contains(m.getName()) ? 1 : 0, 0);
            }
        }
        for (Class<?> inside : LineDiagram.class.getDeclaredClasses()) {
            CHECK.due(inside + " is static", Modifier.isStatic(inside.getModifiers()) ? 1 : 0, 1);
            for (Method m : inside.getDeclaredMethods()) {
                CHECK.due(inside + " has a method " + m.getName(), names.contains(m.getName()) ? 1 : 0, 0);
            }
        }
        CHECK.due("final", Modifier.isFinal(LineDiagram.class.getModifiers()) ? 1 : 0, 1);
        for (Constructor<?> c : LineDiagram.class.getDeclaredConstructors()) {
            CHECK.due("constructor", Modifier.isPublic(c.getModifiers()) ? c.getParameterCount() : -1, 0);
        }
    }

    private static void constants() throws Exception {
        String[] names = {"INVALID", "NOT_FOUND", "CROOKED", "SHORT", "OFF", "ON_LINE", "ON_LABEL"};
        for (int i = 0; i < names.length; i++) {
            CHECK.due(names[i], LineDiagram.class.getField(names[i]).getInt(null), -1 - i);
        }
        int open = 0;
        for (Field f : LineDiagram.class.getDeclaredFields()) {
            open += Modifier.isPrivate(f.getModifiers()) ? 0 : 1;
        }
        CHECK.due("fields that are not private", open, names.length);
    }

    /** All methods with extreme arguments, in some states; a throw would end the test. */
    private static void everyArgument() throws Exception {
        StringBuilder full = new StringBuilder("board 40 40 turn 3;");
        for (char name = 'a'; name < 'i'; name++) {
            int row = 4 * (name - 'a');
            full.append("line ").append(name).append(" size 10 stops 20 at 0 " + row + " at 39 " + row + ";");
        }
        String[] texts = {"board 20 12 turn 2;", "board 4 4 turn 0;line a size 10 stops 4 at 0 0 at 3 3;", full.toString()};
        for (String text : texts) {
            for (Method m : LineDiagram.class.getDeclaredMethods()) {
                if (Modifier.isPublic(m.getModifiers())) {
                    everyArgument(text, m);
                }
            }
        }
    }

    private static void everyArgument(String text, Method m) throws Exception {
        int many = m.getParameterCount();
        long runs = 1;
        for (int i = 0; i < many; i++) {
            runs *= EXTREMES.length;
        }
        long step = Math.max(1, runs / 2000 | 1);
        LineDiagram x = null;
        int calls = 0;
        for (long run = 0; run < runs; run += step) {
            if (calls % 400 == 0) {
                x = Check.of(text);
                x.labelAll();
                x.keep(0);
            }
            calls++;
            Object[] arguments = new Object[many];
            long rest = run;
            for (int i = 0; i < many; i++) {
                int value = EXTREMES[(int) (rest % EXTREMES.length)];
                arguments[i] = m.getParameterTypes()[i] == boolean.class ? (Object) (value > 0) : (Object) value;
                rest /= EXTREMES.length;
            }
            m.invoke(x, arguments);
        }
        CHECK.due(m.getName() + " was called", calls > 0 ? 1 : 0, 1);
    }
}
