/** The edges of what is told and read again, sentence by sentence: promises 1 to 7, 15 to 18 and 40. */
public final class EdgesToldTest {
    private static final Checks CHECK = new Checks();
    private static final int MIN = Integer.MIN_VALUE;
    private static final int MAX = Integer.MAX_VALUE;

    public static void main(String[] args) {
        CHECK.runAll(EdgesToldTest.class);
        CHECK.end();
    }

    // Promise 1: "An empty bench."
    private static void newBenchIsEmpty() {
        WornWigs x = new WornWigs();
        for (int what = 0; what <= 12; what++) {
            CHECK.due("look(" + what + ")", 0, x.look(what));
        }
        CHECK.due("no wig", -2, x.of(0, 0));
        CHECK.due("no rule", -100, x.ruleOf(0, 0, 0));
        CHECK.due("no judge", -100, x.who(0, 0));
        CHECK.due("no case", -100000, x.trialOf(0, 0));
        CHECK.due("no line of the book", -10000, x.book(0, 0));
        CHECK.due("no wig for any traits", 0, x.whose(0));
        CHECK.due("no cites", 0, x.chain(0));
        CHECK.due("no hard cases", -1, x.hears(10));
        CHECK.due("no hairs", -1, x.game(0));
        CHECK.due("nothing to undo", false, x.undo());
        CHECK.due("no image", false, x.image(false));
        CHECK.due("no tape", false, x.end(1));
    }

    // Promise 1: "An empty bench."
    private static void objectsShareNothing() {
        WornWigs x = new WornWigs();
        WornWigs y = new WornWigs();
        x.wig(1, 5);
        x.judge(30, 0);
        x.state(9);
        x.hard(3, 1);
        x.years(3);
        x.image(true);
        for (int what = 0; what <= 12; what++) {
            CHECK.due("look(" + what + ") of the other", 0, y.look(what));
        }
        CHECK.due("hears of the other", 0, y.hears(0));
        CHECK.due("image of the other", false, y.image(false));
    }

    // Promise 2: "STATE is told: what it was."
    // Promise 2, terms: "STATE of draws (an int, 0 at first);"
    private static void stateIsAnyInt() {
        WornWigs x = new WornWigs();
        CHECK.due("0 at first", 0, x.state(MIN));
        CHECK.due("the least", MIN, x.state(MAX));
        CHECK.due("the greatest", MAX, x.state(-1));
        CHECK.due("-1", -1, x.state(0));
        CHECK.due("0 again", 0, x.look(7));
    }

    // Promise 3: "A WIG: the number;"
    // Promise 3, terms: "WIGS 0 .. 7 as they come:"
    private static void wigsAreNumberedAsTheyCome() {
        WornWigs x = new WornWigs();
        for (int i = 0; i < 8; i++) {
            CHECK.due("wig", i, x.wig(i % 3, i));
            CHECK.due("wigs", i + 1, x.look(0));
        }
        for (int i = 0; i < 8; i++) {
            CHECK.due("its colour", i % 3, x.of(i, 0));
            CHECK.due("its hair", i, x.of(i, 1));
        }
    }

    // Promise 3: "NONE if one can't be,"
    // Promise 3, terms: "COLOUR 0 .. 2, HAIR 0 .. 99,"
    private static void wigBeyondItsBounds() {
        WornWigs x = new WornWigs();
        int[][] wrong = {{-1, 5}, {3, 5}, {MIN, 5}, {MAX, 5}, {1, -1}, {1, 100}, {1, MIN}, {1, MAX}};
        for (int[] w : wrong) {
            CHECK.refused(x, "wig(" + w[0] + ", " + w[1] + ")", -1, () -> x.wig(w[0], w[1]));
        }
        int[][] right = {{0, 0}, {0, 99}, {2, 0}, {2, 99}};
        for (int i = 0; i < 4; i++) {
            CHECK.due("a wig at the bounds", i, x.wig(right[i][0], right[i][1]));
            CHECK.due("its colour", right[i][0], x.of(i, 0));
            CHECK.due("its hair", right[i][1], x.of(i, 1));
        }
    }

    // Promise 3: "or there are eight."
    private static void ninthWig() {
        WornWigs x = Checks.bench(7, 0, 0);
        CHECK.due("the eighth", 7, x.wig(0, 0));
        CHECK.refused(x, "the ninth", -1, () -> x.wig(0, 0));
    }

    // Promise 3, terms: "empty at first), ITCH 0 .. 99 (0 at first), LENT (on how many judges it has been, 0 at
    // first)."
    private static void newWigIsBare() {
        WornWigs x = new WornWigs();
        x.wig(2, 99);
        CHECK.due("itch", 0, x.of(0, 2));
        CHECK.due("lent", 0, x.of(0, 3));
        CHECK.due("worn by nobody", -1, x.of(0, 4));
        CHECK.due("rules", 0, x.of(0, 5));
        CHECK.due("no first rule", -100, x.ruleOf(0, 0, 0));
    }

    // Promise 3, terms: "empty at first), ITCH 0 .. 99 (0 at first), LENT (on how many judges it has been, 0 at
    // first)."
    private static void wigInTheRowOfAForgottenOneIsBare() {
        WornWigs x = Checks.bench(0, 1, 0);
        x.image(true);
        x.wig(1, 9);
        x.rule(0, 0, 1, 1);
        x.rule(0, 0, -1, 1);
        x.act(0, 0, 0);
        x.image(false);
        CHECK.due("the first again", 0, x.wig(0, 3));
        int[] due = {0, 3, 0, 0, -1, 0, 1};
        for (int what = 0; what < due.length; what++) {
            CHECK.due("of(0, " + what + ")", due[what], x.of(0, what));
        }
    }

    // Promise 4: "A JUDGE: the number;"
    // Promise 4, terms: "JUDGES 0 .. 9 as they come:"
    private static void judgesAreNumberedAsTheyCome() {
        WornWigs x = new WornWigs();
        for (int i = 0; i < 10; i++) {
            CHECK.due("judge", i, x.judge(10 * i, i - 5));
            CHECK.due("judges", i + 1, x.look(1));
        }
        for (int i = 0; i < 10; i++) {
            CHECK.due("his age", 10 * i, x.who(i, 0));
            CHECK.due("his mind", i - 5, x.who(i, 1));
        }
    }

    // Promise 4: "NONE if one can't be,"
    // Promise 4, terms: "AGE 0 .. 120, MIND -9 .. 9,"
    private static void judgeBeyondHisBounds() {
        WornWigs x = new WornWigs();
        int[][] wrong = {{-1, 5}, {121, 5}, {MIN, 5}, {MAX, 5}, {1, -10}, {1, 10}, {1, MIN}, {1, MAX}};
        for (int[] j : wrong) {
            CHECK.refused(x, "judge(" + j[0] + ", " + j[1] + ")", -1, () -> x.judge(j[0], j[1]));
        }
        int[][] right = {{0, -9}, {0, 9}, {120, -9}, {120, 9}};
        for (int i = 0; i < 4; i++) {
            CHECK.due("a judge at the bounds", i, x.judge(right[i][0], right[i][1]));
            CHECK.due("his age", right[i][0], x.who(i, 0));
            CHECK.due("his mind", right[i][1], x.who(i, 1));
        }
    }

    // Promise 4: "or there are ten."
    private static void eleventhJudge() {
        WornWigs x = Checks.bench(0, 9, 0);
        CHECK.due("the tenth", 9, x.judge(0, 0));
        CHECK.refused(x, "the eleventh", -1, () -> x.judge(0, 0));
    }

    // Promise 4: "or there are ten."
    private static void deadJudgeCountsAmongTheTen() {
        WornWigs x = Checks.bench(0, 10, 0);
        Checks.kill(x, 3);
        CHECK.refused(x, "the eleventh", -1, () -> x.judge(0, 0));
    }

    // Promise 4, terms: "WIG one or none (none at first), DEAD 0, 1 (0 at first), TRIED (how many, 0 at first)."
    private static void newJudgeIsBareAliveAndHasTriedNothing() {
        WornWigs x = new WornWigs();
        x.judge(120, 9);
        CHECK.due("wig", -1, x.who(0, 2));
        CHECK.due("dead", 0, x.who(0, 3));
        CHECK.due("tried", 0, x.who(0, 4));
    }

    // Promise 4, terms: "WIG one or none (none at first), DEAD 0, 1 (0 at first), TRIED (how many, 0 at first)."
    private static void judgeInTheRowOfAForgottenOneIsBareAlive() {
        WornWigs x = Checks.bench(1, 0, 1);
        x.image(true);
        x.judge(118, 0);
        x.tries(0, 0);
        x.act(0, 0, 0);
        x.years(2);
        x.image(false);
        CHECK.due("the first again", 0, x.judge(4, 5));
        int[] due = {4, 5, -1, 0, 0, 0};
        for (int what = 0; what < due.length; what++) {
            CHECK.due("who(0, " + what + ")", due[what], x.who(0, what));
        }
    }

    // Promise 5: "A CASE: the number;"
    // Promise 5, terms: "CASES 0 .. 13 as they come:"
    private static void casesAreNumberedAsTheyCome() {
        WornWigs x = new WornWigs();
        for (int i = 0; i < 14; i++) {
            CHECK.due("case", i, x.trial(i % 8, i - 7));
            CHECK.due("cases", i + 1, x.look(2));
        }
        for (int i = 0; i < 14; i++) {
            CHECK.due("its cause", i % 8, x.trialOf(i, 0));
            CHECK.due("its merit", i - 7, x.trialOf(i, 1));
        }
    }

    // Promise 5: "NONE if one can't be,"
    // Promise 5, terms: "CAUSES 0 .. 7."
    // Promise 5, terms: "CAUSE, MERIT -99 .. 99,"
    private static void caseBeyondItsBounds() {
        WornWigs x = new WornWigs();
        int[][] wrong = {{-1, 5}, {8, 5}, {MIN, 5}, {MAX, 5}, {1, -100}, {1, 100}, {1, MIN}, {1, MAX}};
        for (int[] c : wrong) {
            CHECK.refused(x, "trial(" + c[0] + ", " + c[1] + ")", -1, () -> x.trial(c[0], c[1]));
        }
        int[][] right = {{0, -99}, {0, 99}, {7, -99}, {7, 99}};
        for (int i = 0; i < 4; i++) {
            CHECK.due("a case at the bounds", i, x.trial(right[i][0], right[i][1]));
            CHECK.due("its cause", right[i][0], x.trialOf(i, 0));
            CHECK.due("its merit", right[i][1], x.trialOf(i, 1));
        }
    }

    // Promise 5: "or there are fourteen."
    private static void fifteenthCase() {
        WornWigs x = Checks.bench(0, 0, 13);
        CHECK.due("the fourteenth", 13, x.trial(0, 0));
        CHECK.refused(x, "the fifteenth", -1, () -> x.trial(0, 0));
    }

    // Promise 5, terms: "VERDICT -999 .. 999 or none (none at first), BY a JUDGE or none (none at first)."
    private static void newCaseHasNoVerdict() {
        WornWigs x = new WornWigs();
        x.trial(0, 99);
        CHECK.due("verdict", -10000, x.trialOf(0, 2));
        CHECK.due("by", -1, x.trialOf(0, 3));
        CHECK.due("without verdict", 1, x.look(5));
    }

    // Promise 5, terms: "VERDICT -999 .. 999 or none (none at first), BY a JUDGE or none (none at first)."
    private static void caseInTheRowOfAForgottenOneHasNoVerdict() {
        WornWigs x = Checks.bench(0, 1, 0);
        x.image(true);
        x.trial(0, 9);
        x.tries(0, 0);
        x.image(false);
        CHECK.due("the first again", 0, x.trial(1, 2));
        CHECK.due("verdict", -10000, x.trialOf(0, 2));
        CHECK.due("by", -1, x.trialOf(0, 3));
    }

    // Promise 6: "A RULE behind all of a WIG (ITCH anew): how many it has;"
    // Promise 6, terms: "RULES (a row of 8 at most: CAUSE, RULING -9 .. 9, WEIGHT 1 .. 99;"
    private static void rulesStandAsTheyCome() {
        WornWigs x = Checks.bench(8, 0, 0);
        for (int i = 0; i < 8; i++) {
            CHECK.due("rule", i + 1, x.rule(7, i, i - 4, i + 1));
            CHECK.due("rule of another wig", i + 1, x.rule(0, 7 - i, 4 - i, 9 - i));
        }
        for (int i = 0; i < 8; i++) {
            CHECK.due("its cause", i, x.ruleOf(7, i, 0));
            CHECK.due("its ruling", i - 4, x.ruleOf(7, i, 1));
            CHECK.due("its weight", i + 1, x.ruleOf(7, i, 2));
            CHECK.due("cause in the other wig", 7 - i, x.ruleOf(0, i, 0));
        }
    }

    // Promise 6: "A RULE behind all of a WIG (ITCH anew): how many it has;"
    private static void itchIsAnewWithEachRule() {
        WornWigs x = Checks.bench(1, 0, 0);
        int[][] rules = {{2, 1}, {2, 0}, {3, -1}, {2, -1}, {2, -9}, {3, 1}};
        int[] itches = {0, 0, 0, 9, 18, 27};
        for (int i = 0; i < rules.length; i++) {
            x.rule(0, rules[i][0], rules[i][1], 5);
            CHECK.due("itch with " + (i + 1) + " rules", itches[i], x.of(0, 2));
        }
    }

    // Promise 6, terms: "ITCH is then how many couples of RULES of one CAUSE have RULINGS of unlike sign (one below,
    // one above 0), by 9 each (99 at most)."
    private static void itchIsNinetyNineAtMost() {
        WornWigs x = Checks.bench(2, 0, 0);
        int[] rulings = {1, 2, -1, -2, -3, -4, -5, 3};
        int[] itches = {0, 0, 18, 36, 54, 72, 90, 99};
        for (int i = 0; i < 8; i++) {
            x.rule(0, 0, rulings[i], 5);
            CHECK.due("itch with " + (i + 1) + " rules", itches[i], x.of(0, 2));
        }
        for (int i = 0; i < 7; i++) {
            x.rule(1, 7, i < 3 ? 1 : -1, 5);
        }
        CHECK.due("12 couples of the last cause", 99, x.of(1, 2));
    }

    // Promise 6: "NONE if one can't be,"
    // Promise 6, terms: "RULES (a row of 8 at most: CAUSE, RULING -9 .. 9, WEIGHT 1 .. 99;"
    private static void ruleBeyondItsBounds() {
        WornWigs x = Checks.bench(2, 0, 0);
        int[][] wrong = {{-1, 0, 0, 1}, {2, 0, 0, 1}, {8, 0, 0, 1}, {MIN, 0, 0, 1}, {MAX, 0, 0, 1},
            {0, -1, 0, 1}, {0, 8, 0, 1}, {0, MIN, 0, 1}, {0, MAX, 0, 1},
            {0, 0, -10, 1}, {0, 0, 10, 1}, {0, 0, MIN, 1}, {0, 0, MAX, 1},
            {0, 0, 0, 0}, {0, 0, 0, 100}, {0, 0, 0, -1}, {0, 0, 0, MIN}, {0, 0, 0, MAX}};
        for (int[] r : wrong) {
            CHECK.refused(x, "rule" + java.util.Arrays.toString(r), -1, () -> x.rule(r[0], r[1], r[2], r[3]));
        }
        int[][] right = {{0, -9, 1}, {7, 9, 99}, {0, 9, 99}, {7, -9, 1}};
        for (int i = 0; i < 4; i++) {
            CHECK.due("a rule at the bounds", i + 1, x.rule(1, right[i][0], right[i][1], right[i][2]));
            for (int what = 0; what < 3; what++) {
                CHECK.due("ruleOf(1, " + i + ", " + what + ")", right[i][what], x.ruleOf(1, i, what));
            }
        }
    }

    // Promise 6: "or it has eight."
    private static void ninthRule() {
        WornWigs x = Checks.bench(2, 0, 0);
        for (int i = 0; i < 7; i++) {
            x.rule(0, 0, 0, 1);
        }
        CHECK.due("the eighth", 8, x.rule(0, 0, 0, 1));
        CHECK.refused(x, "the ninth", -1, () -> x.rule(0, 0, 0, 1));
        CHECK.due("the first of the next wig", 1, x.rule(1, 0, 0, 1));
    }

    // Promise 7: "What 0 AGE, 1 MIND of JUDGE who, 2 HAIR of WIG who, 3 MERIT of CASE who: true;"
    private static void setAtTheBounds() {
        WornWigs x = Checks.bench(8, 10, 14);
        int[][] edges = {{0, 9, 0, 120}, {1, 9, -9, 9}, {2, 7, 0, 99}, {3, 13, -99, 99}};
        for (int[] e : edges) {
            for (int who = 0; who <= e[1]; who += e[1]) {
                for (int side = 2; side <= 3; side++) {
                    CHECK.due("set(" + e[0] + ", " + who + ", " + e[side] + ")", true, x.set(e[0], who, e[side]));
                    CHECK.due("as it was set", e[side], readOf(x, e[0], who));
                }
            }
        }
        CHECK.due("the neighbour's age is left", 30, x.who(1, 0));
        CHECK.due("the neighbour's hair is left", 50, x.of(1, 1));
        CHECK.due("the neighbour's merit is left", 0, x.trialOf(1, 1));
    }

    private static int readOf(WornWigs x, int what, int who) {
        return what < 2 ? x.who(who, what) : what == 2 ? x.of(who, 1) : x.trialOf(who, 1);
    }

    // Promise 7: "What 0 AGE, 1 MIND of JUDGE who, 2 HAIR of WIG who, 3 MERIT of CASE who: true;"
    private static void setOfTheDeadAndTheTried() {
        WornWigs x = Checks.bench(0, 1, 1);
        x.tries(0, 0);
        Checks.kill(x, 0);
        CHECK.due("age of the dead", true, x.set(0, 0, 7));
        CHECK.due("mind of the dead", true, x.set(1, 0, 8));
        CHECK.due("merit of a case with a verdict", true, x.set(3, 0, 9));
        CHECK.due("age", 7, x.who(0, 0));
        CHECK.due("mind", 8, x.who(0, 1));
        CHECK.due("dead all the same", 1, x.who(0, 3));
        CHECK.due("merit", 9, x.trialOf(0, 1));
        CHECK.due("the verdict stays", 0, x.trialOf(0, 2));
    }

    // Promise 7: "false if one can't be,"
    private static void setBeyondTheBounds() {
        WornWigs x = Checks.bench(2, 3, 4);
        int[][] edges = {{0, 3, 0, 120}, {1, 3, -9, 9}, {2, 2, 0, 99}, {3, 4, -99, 99}};
        for (int[] e : edges) {
            int[] values = {e[2] - 1, e[3] + 1, MIN, MAX};
            for (int v : values) {
                CHECK.refused(x, "set(" + e[0] + ", 0, " + v + ")", () -> x.set(e[0], 0, v));
            }
            int[] nobody = {-1, e[1], 14, MIN, MAX};
            for (int who : nobody) {
                CHECK.refused(x, "set(" + e[0] + ", " + who + ", 1)", () -> x.set(e[0], who, 1));
            }
        }
    }

    // Promise 7: "or another what."
    private static void setOfAnotherWhat() {
        WornWigs x = Checks.bench(1, 1, 1);
        int[] others = {-1, 4, MIN, MAX};
        for (int what : others) {
            CHECK.refused(x, "set(" + what + ", 0, 1)", () -> x.set(what, 0, 1));
        }
    }

    // Promise 15: "Of a WIG what 0 COLOUR, 1 HAIR, 2 ITCH, 3 LENT, 4 who wears it (NONE), 5 how many RULES, 6 moth."
    private static void ofTheFirstAndTheLastWig() {
        WornWigs x = Checks.bench(7, 10, 0);
        x.wig(2, 90);
        x.rule(7, 1, 1, 1);
        x.rule(7, 1, -1, 1);
        x.rule(7, 2, -1, 1);
        int[] bare = {2, 90, 9, 0, -1, 3, 2};
        for (int what = 0; what < 7; what++) {
            CHECK.due("of(7, " + what + ")", bare[what], x.of(7, what));
        }
        x.act(0, 7, 9);
        CHECK.due("lent", 1, x.of(7, 3));
        CHECK.due("the last judge wears it", 9, x.of(7, 4));
        x.act(0, 0, 0);
        CHECK.due("the first judge wears the first", 0, x.of(0, 4));
    }

    // Promise 15: "NONE - 1 if there is none such, or another what."
    private static void ofNoSuchWig() {
        WornWigs x = Checks.bench(2, 0, 0);
        int[] none = {-1, 2, 7, 8, MIN, MAX};
        for (int w : none) {
            CHECK.due("of(" + w + ", 0)", -2, x.of(w, 0));
        }
        int[] others = {-1, 7, MIN, MAX};
        for (int what : others) {
            CHECK.due("of(0, " + what + ")", -2, x.of(0, what));
        }
        CHECK.due("the last there is", 0, x.of(1, 0));
    }

    // Promise 16: "Of RULE i of a WIG what 0 CAUSE, 1 RULING, 2 WEIGHT, 10 + j counts on JUDGE j."
    private static void ruleOfTheFirstAndTheLast() {
        WornWigs x = Checks.bench(8, 10, 0);
        for (int i = 0; i < 8; i++) {
            x.rule(7, 7, -9 + i, 91 + i);
        }
        CHECK.due("cause", 7, x.ruleOf(7, 0, 0));
        CHECK.due("ruling", -9, x.ruleOf(7, 0, 1));
        CHECK.due("weight", 91, x.ruleOf(7, 0, 2));
        CHECK.due("ruling of the last", -2, x.ruleOf(7, 7, 1));
        CHECK.due("weight of the last", 98, x.ruleOf(7, 7, 2));
        Checks.text(x, 0, "counts age + mind;");
        x.set(0, 0, 7);
        x.set(0, 9, 11);
        x.set(1, 9, -5);
        CHECK.due("counts on the first judge", 7, x.ruleOf(7, 7, 10));
        CHECK.due("counts on the last judge", 6, x.ruleOf(7, 7, 19));
    }

    // Promise 16: "NONE - 99 if there is none such, or another what."
    private static void ruleOfNoSuch() {
        WornWigs x = Checks.bench(2, 2, 0);
        x.rule(1, 0, 0, 1);
        x.rule(1, 0, 0, 1);
        int[] noWig = {-1, 2, 8, MIN, MAX};
        for (int w : noWig) {
            CHECK.due("ruleOf(" + w + ", 0, 0)", -100, x.ruleOf(w, 0, 0));
        }
        int[] noRule = {-1, 2, 8, MIN, MAX};
        for (int i : noRule) {
            CHECK.due("ruleOf(1, " + i + ", 0)", -100, x.ruleOf(1, i, 0));
        }
        CHECK.due("a wig without rules", -100, x.ruleOf(0, 0, 0));
        int[] others = {-1, 3, 9, 12, 19, 20, MIN, MAX};
        for (int what : others) {
            CHECK.due("ruleOf(1, 0, " + what + ")", -100, x.ruleOf(1, 0, what));
        }
        CHECK.due("the last judge there is", 1, x.ruleOf(1, 1, 11));
        WornWigs y = Checks.bench(1, 0, 0);
        y.rule(0, 0, 0, 1);
        CHECK.due("counts without a judge", -100, y.ruleOf(0, 0, 10));
    }

    // Promise 17: "Of a JUDGE what 0 AGE, 1 MIND, 2 WIG (NONE), 3 DEAD, 4 TRIED, 5 dies."
    private static void whoOfTheFirstAndTheLast() {
        WornWigs x = Checks.bench(8, 10, 2);
        x.set(0, 9, 61);
        x.set(1, 9, -9);
        x.act(0, 7, 9);
        x.tries(1, 9);
        int[] due = {61, -9, 7, 0, 1, 9};
        for (int what = 0; what < 6; what++) {
            CHECK.due("who(9, " + what + ")", due[what], x.who(9, what));
        }
        x.act(0, 0, 0);
        CHECK.due("the first has the first", 0, x.who(0, 2));
        CHECK.due("without a wig", -1, x.who(1, 2));
        Checks.kill(x, 0);
        CHECK.due("dead", 1, x.who(0, 3));
        CHECK.due("the dead has none", -1, x.who(0, 2));
    }

    // Promise 17: "NONE - 99 if there is none such, or another what."
    private static void whoIsNotThere() {
        WornWigs x = Checks.bench(0, 2, 0);
        int[] none = {-1, 2, 9, 10, MIN, MAX};
        for (int j : none) {
            CHECK.due("who(" + j + ", 0)", -100, x.who(j, 0));
        }
        int[] others = {-1, 6, MIN, MAX};
        for (int what : others) {
            CHECK.due("who(0, " + what + ")", -100, x.who(0, what));
        }
        CHECK.due("the last there is", 30, x.who(1, 0));
    }

    // Promise 18: "Of a CASE what 0 CAUSE, 1 MERIT, 2 VERDICT (NONE - 9999), 3 BY (NONE)."
    private static void trialOfTheFirstAndTheLast() {
        WornWigs x = Checks.bench(0, 10, 13);
        x.trial(7, -1);
        int[] open = {7, -1, -10000, -1};
        for (int what = 0; what < 4; what++) {
            CHECK.due("trialOf(13, " + what + ")", open[what], x.trialOf(13, what));
        }
        x.tries(13, 9);
        CHECK.due("a verdict of -1", -1, x.trialOf(13, 2));
        CHECK.due("by the last judge", 9, x.trialOf(13, 3));
        x.tries(0, 0);
        CHECK.due("a verdict of 0", 0, x.trialOf(0, 2));
        CHECK.due("by the first judge", 0, x.trialOf(0, 3));
    }

    // Promise 18: "NONE - 99999 if there is none such, or another what."
    private static void trialOfNoSuch() {
        WornWigs x = Checks.bench(0, 0, 2);
        int[] none = {-1, 2, 13, 14, MIN, MAX};
        for (int c : none) {
            CHECK.due("trialOf(" + c + ", 0)", -100000, x.trialOf(c, 0));
        }
        int[] others = {-1, 4, MIN, MAX};
        for (int what : others) {
            CHECK.due("trialOf(0, " + what + ")", -100000, x.trialOf(0, what));
        }
        CHECK.due("the last there is", 0, x.trialOf(1, 0));
    }

    // Promise 40: "What 0 WIGS, 1 JUDGES, 2 CASES, 3 YEAR, 4 those DEAD (a set), 5 CASES without VERDICT (a set), 6
    // lines of THE BOOK, 7 STATE, 8 lines of THE LAW, 9 of DOCKET, 10 of LOANS, 11 of KIN, 12 what can be undone."
    private static void looksAtAFullBench() {
        WornWigs x = Checks.bench(8, 10, 14);
        Checks.text(x, 0, "moth 1;".repeat(16));
        Checks.text(x, 1, "in 9 case 0 before 0;".repeat(15));
        Checks.text(x, 2, "in 9 off 0;".repeat(14));
        Checks.text(x, 3, "wig 0 of 1;".repeat(13));
        x.set(0, 0, 119);
        x.set(0, 9, 119);
        x.years(1);
        x.tries(0, 1);
        x.tries(13, 8);
        int[] due = {8, 10, 14, 1, 1 + (1 << 9), (1 << 13) - 2, 4, 0, 16, 15, 14, 13, 3};
        // Both who died at 120 drew ahead of it.
        due[7] = 1013904223 * 1664525 + 1013904223;
        for (int what = 0; what < due.length; what++) {
            CHECK.due("look(" + what + ")", due[what], x.look(what));
        }
    }

    // Promise 40: "NONE for another what."
    private static void looksAtAnotherWhat() {
        WornWigs x = Checks.bench(8, 10, 14);
        int[] others = {-1, 13, MIN, MAX};
        for (int what : others) {
            CHECK.due("look(" + what + ")", -1, x.look(what));
        }
    }

    // Promise 40: "(STATE as it is.)"
    private static void lookAtAStateBelowNought() {
        WornWigs x = new WornWigs();
        int[] states = {-1, MIN, MAX, 0, -2};
        for (int v : states) {
            x.state(v);
            CHECK.due("look(7)", v, x.look(7));
        }
    }

    // Promise 1, terms: "An object is used for at most 512 calls after it has been made; what later calls answer is
    // free."
    private static void theFiveHundredAndTwelfthCallAnswers() {
        WornWigs x = new WornWigs();
        for (int i = 0; i < 511; i++) {
            x.wig(0, 50);
        }
        CHECK.due("the 512th call", 8, x.look(0));
    }
}
