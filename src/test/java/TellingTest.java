/** Promises 1 to 7, 15 to 18 and 40: what is told, and how it is read again. */
public final class TellingTest {
    private static final Checks CHECK = new Checks();

    public static void main(String[] args) {
        newObjectIsEmpty();
        stateTellsWhatItWas();
        wigsAsTheyCome();
        judgesAsTheyCome();
        casesAsTheyCome();
        rulesBehindAll();
        itchOfRules();
        setChangesOneThing();
        readingWhatIsNotThere();
        looksAtAll();
        CHECK.end();
    }

    private static void newObjectIsEmpty() {
        WornWigs x = new WornWigs();
        CHECK.due("NONE", -1, WornWigs.NONE);
        for (int what = 0; what <= 12; what++) {
            CHECK.due("look(" + what + ") of a new object", 0, x.look(what));
        }
        CHECK.due("fault(0)", 0, x.fault(0));
        CHECK.due("fault(1)", -1, x.fault(1));
        CHECK.due("undo()", false, x.undo());
        CHECK.due("image(false)", false, x.image(false));
    }

    private static void stateTellsWhatItWas() {
        WornWigs x = new WornWigs();
        CHECK.due("state(5)", 0, x.state(5));
        CHECK.due("state(min)", 5, x.state(Integer.MIN_VALUE));
        CHECK.due("look(7)", Integer.MIN_VALUE, x.look(7));
        CHECK.due("state(-1)", Integer.MIN_VALUE, x.state(-1));
        CHECK.due("look(7)", -1, x.look(7));
    }

    private static void wigsAsTheyCome() {
        WornWigs x = new WornWigs();
        int[][] wrong = {{-1, 0}, {3, 0}, {0, -1}, {0, 100}, {Integer.MAX_VALUE, 5}, {1, Integer.MIN_VALUE}};
        for (int[] w : wrong) {
            CHECK.due("wig(" + w[0] + ", " + w[1] + ")", -1, x.wig(w[0], w[1]));
        }
        CHECK.due("wigs", 0, x.look(0));
        for (int i = 0; i < 8; i++) {
            CHECK.due("wig " + i, i, x.wig(i % 3, i == 7 ? 99 : i));
        }
        CHECK.due("a ninth wig", -1, x.wig(0, 0));
        CHECK.due("wigs", 8, x.look(0));
        int[] due = {1, 99, 0, 0, -1, 0, 1};
        for (int what = 0; what < due.length; what++) {
            CHECK.due("of(7, " + what + ")", due[what], x.of(7, what));
        }
    }

    private static void judgesAsTheyCome() {
        WornWigs x = new WornWigs();
        int[][] wrong = {{-1, 0}, {121, 0}, {0, -10}, {0, 10}, {Integer.MIN_VALUE, 0}};
        for (int[] j : wrong) {
            CHECK.due("judge(" + j[0] + ", " + j[1] + ")", -1, x.judge(j[0], j[1]));
        }
        for (int i = 0; i < 10; i++) {
            CHECK.due("judge " + i, i, x.judge(i == 0 ? 120 : i == 1 ? 0 : 60 + i, i == 2 ? -9 : 9));
        }
        CHECK.due("an eleventh judge", -1, x.judge(0, 0));
        CHECK.due("judges", 10, x.look(1));
        int[] due = {62, -9, -1, 0, 0, 18};
        for (int what = 0; what < due.length; what++) {
            CHECK.due("who(2, " + what + ")", due[what], x.who(2, what));
        }
        CHECK.due("dies at 120", 540, x.who(0, 5));
        CHECK.due("dies at 0", 0, x.who(1, 5));
    }

    private static void casesAsTheyCome() {
        WornWigs x = new WornWigs();
        int[][] wrong = {{-1, 0}, {8, 0}, {0, -100}, {0, 100}};
        for (int[] c : wrong) {
            CHECK.due("trial(" + c[0] + ", " + c[1] + ")", -1, x.trial(c[0], c[1]));
        }
        for (int i = 0; i < 14; i++) {
            CHECK.due("trial " + i, i, x.trial(i % 8, i == 13 ? -99 : 99));
        }
        CHECK.due("a fifteenth case", -1, x.trial(0, 0));
        CHECK.due("cases", 14, x.look(2));
        CHECK.due("cases without verdict", (1 << 14) - 1, x.look(5));
        int[] due = {5, -99, -10000, -1};
        for (int what = 0; what < due.length; what++) {
            CHECK.due("trialOf(13, " + what + ")", due[what], x.trialOf(13, what));
        }
    }

    private static void rulesBehindAll() {
        WornWigs x = new WornWigs();
        x.wig(0, 10);
        int[][] wrong = {{1, 0, 0, 1}, {-1, 0, 0, 1}, {0, 8, 0, 1}, {0, -1, 0, 1}, {0, 0, 10, 1}, {0, 0, -10, 1},
            {0, 0, 0, 0}, {0, 0, 0, 100}};
        for (int[] r : wrong) {
            CHECK.due("a wrong rule", -1, x.rule(r[0], r[1], r[2], r[3]));
        }
        for (int i = 0; i < 8; i++) {
            CHECK.due("rule " + i, i + 1, x.rule(0, i, i == 0 ? -9 : 9, i == 0 ? 1 : 99));
        }
        CHECK.due("a ninth rule", -1, x.rule(0, 0, 0, 1));
        CHECK.due("of(0, 5)", 8, x.of(0, 5));
        CHECK.due("ruleOf(0, 0, 1)", -9, x.ruleOf(0, 0, 1));
        CHECK.due("ruleOf(0, 0, 2)", 1, x.ruleOf(0, 0, 2));
        CHECK.due("ruleOf(0, 7, 0)", 7, x.ruleOf(0, 7, 0));
        CHECK.due("ruleOf(0, 7, 2)", 99, x.ruleOf(0, 7, 2));
    }

    private static void itchOfRules() {
        WornWigs x = new WornWigs();
        x.wig(0, 10);
        int[] rulings = {0, 3, -3, 0, -1, 5, 1};
        int[] itches = {0, 0, 9, 9, 18, 36, 54};
        for (int i = 0; i < rulings.length; i++) {
            x.rule(0, 2, rulings[i], 9);
            CHECK.due("itch with " + (i + 1) + " rules", itches[i], x.of(0, 2));
        }
        x.rule(0, 3, -1, 9);
        CHECK.due("itch of another cause", 54, x.of(0, 2));
        CHECK.due("moth by itch", 7, x.of(0, 6));
        WornWigs y = new WornWigs();
        y.wig(0, 10);
        for (int i = 0; i < 8; i++) {
            y.rule(0, 0, i < 4 ? 1 : -1, 9);
        }
        CHECK.due("most itch", 99, y.of(0, 2));
        CHECK.due("most moth by itch", 12, y.of(0, 6));
    }

    private static void setChangesOneThing() {
        WornWigs x = new WornWigs();
        x.wig(1, 10);
        x.judge(20, 1);
        x.trial(0, 1);
        int[][] edges = {{0, 0, 120}, {1, -9, 9}, {2, 0, 99}, {3, -99, 99}};
        for (int[] e : edges) {
            CHECK.due("set below", false, x.set(e[0], 0, e[1] - 1));
            CHECK.due("set above", false, x.set(e[0], 0, e[2] + 1));
            CHECK.due("set of who is not there", false, x.set(e[0], 1, e[1]));
            CHECK.due("set of who can't be", false, x.set(e[0], -1, e[1]));
            CHECK.due("set to the least", true, x.set(e[0], 0, e[1]));
            CHECK.due("set to the most", true, x.set(e[0], 0, e[2]));
        }
        CHECK.due("another what", false, x.set(4, 0, 1));
        CHECK.due("another what", false, x.set(-1, 0, 1));
        CHECK.due("age", 120, x.who(0, 0));
        CHECK.due("mind", 9, x.who(0, 1));
        CHECK.due("hair", 99, x.of(0, 1));
        CHECK.due("merit", 99, x.trialOf(0, 1));
        for (int i = 1; i < 14; i++) {
            x.wig(0, 0);
            x.judge(0, 0);
            x.trial(0, 0);
        }
        CHECK.due("set the last age", true, x.set(0, 9, 8));
        CHECK.due("set the last mind", true, x.set(1, 9, 7));
        CHECK.due("set the last hair", true, x.set(2, 7, 6));
        CHECK.due("set the last merit", true, x.set(3, 13, 5));
        CHECK.due("the last age", 8, x.who(9, 0));
        CHECK.due("the last mind", 7, x.who(9, 1));
        CHECK.due("the last hair", 6, x.of(7, 1));
        CHECK.due("the last merit", 5, x.trialOf(13, 1));
        CHECK.due("no such judge", false, x.set(0, 10, 1));
        CHECK.due("no such wig", false, x.set(2, 8, 1));
        CHECK.due("no such case", false, x.set(3, 14, 1));
    }

    private static void readingWhatIsNotThere() {
        WornWigs x = new WornWigs();
        x.wig(1, 10);
        x.rule(0, 1, 2, 3);
        x.judge(20, 1);
        x.trial(0, 1);
        int[] far = {Integer.MIN_VALUE, -1, 99, Integer.MAX_VALUE};
        for (int f : far) {
            CHECK.due("of what", -2, x.of(0, f));
            CHECK.due("of wig", -2, x.of(f, 0));
            CHECK.due("ruleOf what", -100, x.ruleOf(0, 0, f));
            CHECK.due("ruleOf wig", -100, x.ruleOf(f, 0, 0));
            CHECK.due("ruleOf i", -100, x.ruleOf(0, f, 0));
            CHECK.due("who what", -100, x.who(0, f));
            CHECK.due("who judge", -100, x.who(f, 0));
            CHECK.due("trialOf what", -100000, x.trialOf(0, f));
            CHECK.due("trialOf trial", -100000, x.trialOf(f, 0));
            CHECK.due("look", -1, x.look(f));
        }
        CHECK.due("of(0, 7)", -2, x.of(0, 7));
        CHECK.due("of(1, 0)", -2, x.of(1, 0));
        CHECK.due("ruleOf(0, 1, 0)", -100, x.ruleOf(0, 1, 0));
        CHECK.due("ruleOf(0, 0, 3)", -100, x.ruleOf(0, 0, 3));
        CHECK.due("ruleOf(0, 0, 9)", -100, x.ruleOf(0, 0, 9));
        CHECK.due("ruleOf(0, 0, 10)", 3, x.ruleOf(0, 0, 10));
        CHECK.due("ruleOf(0, 0, 11)", -100, x.ruleOf(0, 0, 11));
        CHECK.due("who(0, 6)", -100, x.who(0, 6));
        CHECK.due("trialOf(0, 4)", -100000, x.trialOf(0, 4));
    }

    private static void looksAtAll() {
        WornWigs x = new WornWigs();
        x.wig(0, 50);
        x.judge(119, 0);
        x.judge(30, 0);
        x.judge(119, 0);
        x.trial(0, 0);
        x.trial(0, 0);
        x.trial(1, 0);
        Checks.text(x, 0, "moth 1; dies 0;");
        Checks.text(x, 1, "in 9 case 0 before 0;");
        Checks.text(x, 2, "in 9 off 0; in 8 off 0; in 7 off 0;");
        Checks.text(x, 3, "");
        x.tries(1, 1);
        x.years(2);
        int[] due = {1, 3, 3, 2, 5, 5, 3, 0, 2, 1, 3, 0, 3, -1};
        for (int what = 0; what < due.length; what++) {
            CHECK.due("look(" + what + ")", due[what], x.look(what));
        }
    }
}
