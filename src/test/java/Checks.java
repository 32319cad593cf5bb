import java.lang.reflect.InvocationTargetException;
import java.lang.reflect.Method;
import java.lang.reflect.Modifier;
import java.util.function.BooleanSupplier;
import java.util.function.IntSupplier;

/** What every test of the project needs: to count wrong answers, and to tell a text to an object. */
final class Checks {
    private int wrong;
    private int asked;
    private String test = "";

    /** Runs each private static method of a class that takes and answers nothing, so that no test is forgotten. */
    void runAll(Class<?> tests) {
        for (Method m : tests.getDeclaredMethods()) {
            boolean isTest = Modifier.isPrivate(m.getModifiers()) && Modifier.isStatic(m.getModifiers())
                    && m.getReturnType() == void.class && m.getParameterCount() == 0 && !m.isSynthetic();
            if (isTest) {
                run(m);
            }
        }
        test = "";
    }

    private void run(Method m) {
        test = m.getName() + ": ";
        int before = asked;
        try {
            m.setAccessible(true);
            m.invoke(null);
        } catch (InvocationTargetException e) {
            fail("threw " + e.getCause());
        } catch (IllegalAccessException e) {
            fail("can't be run");
        }
        if (asked == before) {
            fail("asks nothing");
        }
    }

    void due(String call, long want, long got) {
        asked++;
        if (want != got) {
            wrong++;
            System.out.println(test + call + " answered " + got + ", due is " + want);
        }
    }

    void due(String call, boolean want, boolean got) {
        due(call, want ? 1 : 0, got ? 1 : 0);
    }

    void fail(String what) {
        asked++;
        wrong++;
        System.out.println(test + what);
    }

    /** A call that can't be: it answers so, and nothing that can be seen changes by it. */
    void refused(WornWigs x, String call, int want, IntSupplier asked) {
        String before = seenAll(x);
        due(call, want, asked.getAsInt());
        String after = seenAll(x);
        due(call + " leaves all as it was", true, before.equals(after));
    }

    void refused(WornWigs x, String call, BooleanSupplier asked) {
        refused(x, call, 0, () -> asked.getAsBoolean() ? 1 : 0);
    }

    /** All that can be read, as one text. */
    static String seenAll(WornWigs x) {
        return x.look(12) + " " + x.fault(0) + " " + x.fault(1) + " " + tapeLength(x) + " " + seen(x);
    }

    /** All that can be read and that THE IMAGE holds, as one text. */
    static String seen(WornWigs x) {
        StringBuilder s = new StringBuilder();
        for (int what = 0; what < 12; what++) {
            s.append(x.look(what)).append(' ');
        }
        for (int i = 0; i < 14; i++) {
            for (int what = 0; what < 7; what++) {
                s.append(x.of(i, what)).append(' ').append(x.who(i, what)).append(' ').append(x.trialOf(i, what)).append(' ');
            }
        }
        for (int i = 0; i < 64; i++) {
            for (int what = 0; what < 3; what++) {
                s.append(x.ruleOf(i / 8, i % 8, what)).append(' ');
            }
            s.append(x.ruleOf(i / 8, i % 8, 10)).append(' ');
        }
        for (int i = 0; i < x.look(6); i++) {
            for (int what = 0; what < 4; what++) {
                s.append(x.book(i, what)).append(' ');
            }
        }
        for (int i = 0; i < 18; i++) {
            s.append(x.whose(i)).append(' ').append(x.chain(i)).append(' ').append(x.cut(i)).append(' ');
            s.append(x.hears(i)).append(' ').append(x.kin(i, WornWigs.NONE)).append(' ');
        }
        return s.toString();
    }

    /** How many bytes the TAPE has; NONE if it has no room for a feed, by which that is found out. */
    static int tapeLength(WornWigs x) {
        int length = x.feed(0, 0, 0, 0, 0);
        if (length == WornWigs.NONE) {
            return WornWigs.NONE;
        }
        x.end(length - 20);
        return length - 20;
    }

    /** A bench of so many WIGS (COLOUR 0, HAIR 50), JUDGES (AGE 30, MIND 0) and CASES (CAUSE 0, MERIT 0). */
    static WornWigs bench(int wigs, int judges, int cases) {
        WornWigs x = new WornWigs();
        for (int i = 0; i < wigs; i++) {
            x.wig(0, 50);
        }
        for (int i = 0; i < judges; i++) {
            x.judge(30, 0);
        }
        for (int i = 0; i < cases; i++) {
            x.trial(0, 0);
        }
        return x;
    }

    /** In one YEAR he dies of AGE, and nobody else of those below 60. */
    static void kill(WornWigs x, int judge) {
        x.set(0, judge, 119);
        x.years(1);
    }

    void dueLine(WornWigs x, int i, int year, int what, int which, int howMuch) {
        int[] due = {year, what, which, howMuch};
        for (int k = 0; k < 4; k++) {
            due("book(" + i + ", " + k + ")", due[k], x.book(i, k));
        }
    }

    /** Ends the test with exit code 1 if an answer was wrong, or if nothing was asked at all. */
    void end() {
        System.out.println(asked - wrong + " of " + asked + " answers are as due");
        if (wrong != 0 || asked == 0) {
            System.exit(1);
        }
    }

    /** The five numbers of one feed, from place at of a text that is filled up with blanks. */
    static int[] fiveOf(byte[] bytes, int at) {
        int[] five = new int[5];
        for (int i = 0; i < 20; i++) {
            int b = at + i < bytes.length ? bytes[at + i] & 255 : 32;
            five[i / 4] = five[i / 4] << 8 | b;
        }
        return five;
    }

    static byte[] bytesOf(String text) {
        return text.getBytes(java.nio.charset.StandardCharsets.ISO_8859_1);
    }

    static void tape(WornWigs x, String text) {
        byte[] bytes = bytesOf(text);
        x.end(0);
        for (int at = 0; at < bytes.length; at += 20) {
            int[] five = fiveOf(bytes, at);
            x.feed(five[0], five[1], five[2], five[3], five[4]);
        }
        x.end(bytes.length);
    }

    static int text(WornWigs x, int k, String text) {
        tape(x, text);
        return x.text(k);
    }

    void dueFault(WornWigs x, int k, String text, int fault, int place) {
        due("text(" + k + ") of '" + text + "'", WornWigs.NONE, text(x, k, text));
        due("fault(0) of '" + text + "'", fault, x.fault(0));
        due("fault(1) of '" + text + "'", place, x.fault(1));
    }

    void dueText(WornWigs x, int k, String text, int lines) {
        due("text(" + k + ") of '" + text + "'", lines, text(x, k, text));
        due("fault(0) of '" + text + "'", 0, x.fault(0));
        due("fault(1) of '" + text + "'", WornWigs.NONE, x.fault(1));
    }
}
