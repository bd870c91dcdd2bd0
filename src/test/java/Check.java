/** Counts the answers of one test and prints those that are not as due. */
final class Check {
    private final String test;
    private int right;
    private int wrong;

    Check(String test) {
        this.test = test;
    }

    void due(String call, double got, double want) {
        if (got == want) {
            right++;
        } else {
            wrong++;
            System.out.println(test + ": " + call + " answered " + got + ", due is " + want);
        }
    }

    void due(String call, String got, String want) {
        boolean same = got.equals(want);
        if (!same) {
            System.out.println(test + ": " + call + " answered\n" + got + "\ndue is\n" + want);
        }
        due(call, same ? 1 : 0, 1);
    }

    /** Ends the program with exit code 1 if an answer was wrong. */
    void end() {
        System.out.println(test + ": " + right + " right, " + wrong + " wrong");
        if (wrong != 0 || right == 0) {
            System.exit(1);
        }
    }

    // ---- what many tests need

    /** Puts a text on the tape. */
    static void write(LineDiagram x, String text) {
        byte[] padded = new byte[(text.length() + 19) / 20 * 20];
        for (int i = 0; i < text.length(); i++) {
            padded[i] = (byte) text.charAt(i);
        }
        for (int i = 0; i < padded.length; i += 20) {
            x.append(four(padded, i), four(padded, i + 4), four(padded, i + 8), four(padded, i + 12), four(padded, i + 16));
        }
        x.truncate(padded.length - text.length());
    }

    static int four(byte[] bytes, int i) {
        return (bytes[i] & 255) << 24 | (bytes[i + 1] & 255) << 16 | (bytes[i + 2] & 255) << 8 | bytes[i + 3] & 255;
    }

    /** A new diagram with a setup text loaded. */
    static LineDiagram of(String text) {
        LineDiagram x = new LineDiagram();
        write(x, text);
        if (x.load() < 0) {
            throw new IllegalStateException("not loaded: " + text + " at " + x.errorPosition());
        }
        return x;
    }

    static String setup(LineDiagram x) {
        StringBuilder all = new StringBuilder();
        for (int i = 0; i < x.setupLength(); i++) {
            all.append((char) x.setupByte(i));
        }
        return all.toString();
    }

    static String picture(LineDiagram x) {
        StringBuilder all = new StringBuilder();
        for (int i = 0; i < x.pictureLength(); i++) {
            all.append((char) x.pictureByte(i));
        }
        return all.toString();
    }

    /** A name as named() takes it. */
    static int letters(String name) {
        int all = 0;
        for (int i = 0; i < 6; i++) {
            all = all << 5 | (i < name.length() ? name.charAt(i) - 'a' + 1 : 0);
        }
        return all;
    }
}
