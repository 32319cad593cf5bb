/** What every test of the project needs: to count wrong answers, and to tell a text to an object. */
final class Checks {
    private int wrong;
    private int asked;

    void due(String call, long want, long got) {
        asked++;
        if (want != got) {
            wrong++;
            System.out.println(call + " answered " + got + ", due is " + want);
        }
    }

    void due(String call, boolean want, boolean got) {
        due(call, want ? 1 : 0, got ? 1 : 0);
    }

    void fail(String what) {
        asked++;
        wrong++;
        System.out.println(what);
    }

    /** Ends the test with exit code 1 if an answer was wrong, or if nothing was asked at all. */
    void end() {
        System.out.println(asked - wrong + " of " + asked + " answers are as due");
        if (wrong != 0 || asked == 0) {
            System.exit(1);
        }
    }

    /** The five numbers of one feed, from place at of a text that is filled up with blanks. */
    static int[] fiveOf(byte[] bytes, int at) {
        int[] five = new int[5];
        for (int i = 0; i < 20; i++) {
            int b = at + i < bytes.length ? bytes[at + i] & 255 : 32;
            five[i / 4] = five[i / 4] << 8 | b;
        }
        return five;
    }

    static byte[] bytesOf(String text) {
        return text.getBytes(java.nio.charset.StandardCharsets.ISO_8859_1);
    }

    static void tape(WornWigs x, String text) {
        byte[] bytes = bytesOf(text);
        x.end(0);
        for (int at = 0; at < bytes.length; at += 20) {
            int[] five = fiveOf(bytes, at);
            x.feed(five[0], five[1], five[2], five[3], five[4]);
        }
        x.end(bytes.length);
    }

    static int text(WornWigs x, int k, String text) {
        tape(x, text);
        return x.text(k);
    }

    void dueFault(WornWigs x, int k, String text, int fault, int place) {
        due("text(" + k + ") of '" + text + "'", WornWigs.NONE, text(x, k, text));
        due("fault(0) of '" + text + "'", fault, x.fault(0));
        due("fault(1) of '" + text + "'", place, x.fault(1));
    }

    void dueText(WornWigs x, int k, String text, int lines) {
        due("text(" + k + ") of '" + text + "'", lines, text(x, k, text));
        due("fault(0) of '" + text + "'", 0, x.fault(0));
        due("fault(1) of '" + text + "'", WornWigs.NONE, x.fault(1));
    }
}
