import java.lang.reflect.InvocationTargetException;
import java.lang.reflect.Method;
import java.util.Arrays;
import java.util.Comparator;

/** Counts the answers of one test and prints those that are not as due. */
final class Check {
    private final String test;
    /** The sentence that is being tested, ahead of each wrong answer. */
    private String about = "";
    private int right;
    private int wrong;

    Check(String test) {
        this.test = test;
    }

    void due(String call, double got, double want) {
        if (got == want) {
            right++;
        } else {
            wrong++;
            System.out.println(test + ": " + about + call + " answered " + got + ", due is " + want);
        }
    }

    void due(String call, String got, String want) {
        boolean same = got.equals(want);
        if (!same) {
            System.out.println(test + ": " + about + call + " answered\n" + got + "\ndue is\n" + want);
        }
        due(call, same ? 1 : 0, 1);
    }

    /** Runs each method that says which words of the document it tests; one that asks nothing is wrong. */
    void eachSentence(Class<?> tests) throws IllegalAccessException {
        Method[] methods = tests.getDeclaredMethods();
        Arrays.sort(methods, Comparator.comparing(Method::getName));
        for (Method method : methods) {
            Says says = method.getAnnotation(Says.class);
            if (says != null) {
                about = says.in() + ", \"" + says.words().replace('\n', ' ') + "\" (" + method.getName() + "): ";
                int before = right + wrong;
                run(method);
                due("a call", right + wrong > before ? 1 : 0, 1);
            }
        }
        about = "";
    }

    private void run(Method method) throws IllegalAccessException {
        method.setAccessible(true);
        try {
            method.invoke(null);
        } catch (InvocationTargetException thrown) {
            wrong++;
            System.out.println(test + ": " + about + "threw " + thrown.getCause());
        }
    }

    /** A setup text that loads as so many lines. */
    void loads(String text, int lines) {
        LineDiagram x = new LineDiagram();
        write(x, text);
        due("load(" + text + ")", x.load(), lines);
        due("its errorPosition", x.errorPosition(), -2);
    }

    /** A setup text that does not load, with a ^ ahead of the first token that cannot stand. */
    void refuses(String marked) {
        int place = marked.indexOf('^');
        String text = marked.substring(0, place) + marked.substring(place + 1);
        LineDiagram x = new LineDiagram();
        write(x, text);
        due("load(" + text + ")", x.load(), -1);
        due("errorPosition of " + text, x.errorPosition(), place);
    }

    /** Ends the program with exit code 1 if an answer was wrong. */
    void end() {
        System.out.println(test + ": " + right + " right, " + wrong + " wrong");
        if (wrong != 0 || right == 0) {
            System.exit(1);
        }
    }

    // ---- what many tests need

    /** Puts a text on the tape: twenty bytes a call; what is too much of the last one is taken off again. */
    static void write(LineDiagram x, String text) {
        int[] four = new int[(text.length() + 19) / 20 * 5];
        for (int i = 0; i < text.length(); i++) {
            four[i / 4] |= text.charAt(i) << 24 - i % 4 * 8;
        }
        for (int i = 0; i < four.length; i += 5) {
            x.append(four[i], four[i + 1], four[i + 2], four[i + 3], four[i + 4]);
        }
        x.truncate(4 * four.length - text.length());
    }

    static int four(byte[] bytes, int i) {
        return (bytes[i] & 255) << 24 | (bytes[i + 1] & 255) << 16 | (bytes[i + 2] & 255) << 8 | bytes[i + 3] & 255;
    }

    /** A new diagram with a setup text loaded. */
    static LineDiagram of(String text) {
        LineDiagram x = new LineDiagram();
        write(x, text);
        if (x.load() < 0) {
            throw new IllegalStateException("not loaded: " + text + " at " + x.errorPosition());
        }
        return x;
    }

    static String setup(LineDiagram x) {
        StringBuilder all = new StringBuilder();
        int length = x.setupLength();
        for (int i = 0; i < length; i++) {
            all.append((char) x.setupByte(i));
        }
        return all.toString();
    }

    static String picture(LineDiagram x) {
        StringBuilder all = new StringBuilder();
        int length = x.pictureLength();
        for (int i = 0; i < length; i++) {
            all.append((char) x.pictureByte(i));
        }
        return all.toString();
    }

    /** A name as named() takes it. */
    static int letters(String name) {
        int all = 0;
        for (int i = 0; i < 6; i++) {
            all = all << 5 | (i < name.length() ? name.charAt(i) - 'a' + 1 : 0);
        }
        return all;
    }
}
