/** The edges of what is done by hand and of THE BOOK, sentence by sentence: promises 8, 9 and 19. */
public final class EdgesCourtTest {
    private static final Checks CHECK = new Checks();
    private static final int MIN = Integer.MIN_VALUE;
    private static final int MAX = Integer.MAX_VALUE;

    public static void main(String[] args) {
        CHECK.runAll(EdgesCourtTest.class);
        CHECK.end();
    }

    /** The WIG of the JUDGE in benchFor; those ahead of it are full of other RULES. */
    private static final int WIG = 7;

    /** A JUDGE of MIND 0 with a WIG whose only RULE for the CASE adds so much to MERIT (-99 .. 99). */
    private static WornWigs benchFor(int merit, int more) {
        WornWigs x = Checks.bench(8, 1, 0);
        x.trial(4, merit);
        if (more != 0) {
            x.rule(WIG, 4, more < 0 ? -9 : 9, Math.abs(more));
        }
        for (int i = 0; i < 56; i++) {
            x.rule(i / 8, 4, i % 2 == 0 ? 9 : -7, i % 8 + 1);
        }
        x.act(0, WIG, 0);
        return x;
    }

    private static void othersAreLeft(WornWigs x) {
        for (int i = 0; i < 56; i++) {
            CHECK.due("ruling of another wig", i % 2 == 0 ? 9 : -7, x.ruleOf(i / 8, i % 8, 1));
            CHECK.due("weight of another wig", i % 8 + 1, x.ruleOf(i / 8, i % 8, 2));
        }
    }

    // Promise 8: "To TRY: VERDICT;"
    private static void triesAnswersTheVerdict() {
        WornWigs x = Checks.bench(0, 10, 13);
        x.trial(7, -99);
        x.set(1, 9, -9);
        CHECK.due("the last case before the last judge", -99 - 27, x.tries(13, 9));
        CHECK.due("its verdict", -126, x.trialOf(13, 2));
        CHECK.due("by", 9, x.trialOf(13, 3));
        CHECK.due("a verdict of 0", 0, x.tries(0, 0));
    }

    // Promise 8: "NONE - 9999 if it can't be."
    private static void noSuchCaseOrJudgeToTry() {
        WornWigs x = Checks.bench(1, 2, 2);
        int[] none = {-1, 2, 14, MIN, MAX};
        for (int i : none) {
            CHECK.refused(x, "tries(" + i + ", 0)", -10000, () -> x.tries(i, 0));
            CHECK.refused(x, "tries(0, " + i + ")", -10000, () -> x.tries(0, i));
        }
        CHECK.due("the last there are", 0, x.tries(1, 1));
    }

    // Promise 8, terms: "To TRY a CASE without VERDICT,"
    private static void caseIsTriedOnce() {
        WornWigs x = Checks.bench(1, 2, 2);
        x.tries(0, 0);
        CHECK.refused(x, "the same judge again", -10000, () -> x.tries(0, 0));
        CHECK.refused(x, "another judge", -10000, () -> x.tries(0, 1));
        x.set(3, 0, 50);
        CHECK.refused(x, "with another merit", -10000, () -> x.tries(0, 1));
    }

    // Promise 8, terms: "a JUDGE not DEAD:"
    private static void deadJudgeTriesNothing() {
        WornWigs x = Checks.bench(1, 2, 2);
        Checks.kill(x, 1);
        CHECK.refused(x, "a dead judge", -10000, () -> x.tries(0, 1));
        CHECK.due("one who lives", 0, x.tries(0, 0));
    }

    // Promise 8, terms: "VERDICT is MERIT and 3 times MIND and, of each RULE for its CAUSE in his WIG, RULING times
    // counts by 9 (each downwards; all asked ahead);"
    private static void eachQuotientGoesDownwards() {
        int[][] rules = {{1, 8, 0}, {1, 9, 1}, {1, 17, 1}, {-1, 1, -1}, {-1, 9, -1}, {-1, 10, -2}, {0, 99, 0}};
        for (int[] r : rules) {
            WornWigs x = benchFor(50, 0);
            x.rule(WIG, 4, r[0], r[1]);
            CHECK.due("one rule", 50 + r[2], x.would(0, 0));
            x.rule(WIG, 4, r[0], r[1]);
            CHECK.due("two rules, each by itself", 50 + 2 * r[2], x.tries(0, 0));
        }
    }

    // Promise 8, terms: "VERDICT is MERIT and 3 times MIND and, of each RULE for its CAUSE in his WIG, RULING times
    // counts by 9 (each downwards; all asked ahead);"
    private static void onlyRulesForItsCauseInHisWigCount() {
        WornWigs x = Checks.bench(8, 2, 0);
        x.trial(4, 10);
        for (int c = 0; c < 8; c++) {
            if (c != 4) {
                x.rule(1, c, 9, 99);
            }
            x.rule(0, 4, 9, 99);
            x.rule(2, 4, 9, 99);
        }
        x.act(0, 1, 0);
        x.act(0, 2, 1);
        CHECK.due("only other causes and other wigs", 10, x.tries(0, 0));
    }

    // Promise 8, terms: "VERDICT is MERIT and 3 times MIND and, of each RULE for its CAUSE in his WIG, RULING times
    // counts by 9 (each downwards; all asked ahead);"
    private static void countsIsAskedAheadOfWhatChanges() {
        WornWigs x = benchFor(0, 9);
        Checks.text(x, 0, "counts 9 when tried = 0 and itch = 0; counts 90;");
        CHECK.due("tried is 0 when it is asked", 9, x.tries(0, 0));
        x.trial(4, 0);
        CHECK.due("tried is 1 then", 90, x.would(1, 0));
    }

    // Promise 8, terms: "held to -999 .. 999."
    private static void greatestAndLeastVerdictThatCanBe() {
        for (int side = -1; side <= 1; side += 2) {
            WornWigs x = Checks.bench(1, 1, 0);
            x.set(1, 0, 9 * side);
            x.trial(0, 99 * side);
            for (int i = 0; i < 8; i++) {
                x.rule(0, 0, 9 * side, 99);
            }
            x.act(0, 0, 0);
            // No eight rules reach 999: what can be reached must not be held to less.
            CHECK.due("would", (99 + 27 + 8 * 99) * side, x.would(0, 0));
            CHECK.due("tries", 918 * side, x.tries(0, 0));
            CHECK.due("verdict", 918 * side, x.trialOf(0, 2));
            CHECK.due("in the book", 918 * side, x.book(1, 3));
        }
    }

    // Promise 8, terms: "TRIED is one more."
    private static void triedCountsEachCase() {
        WornWigs x = Checks.bench(0, 2, 14);
        for (int i = 0; i < 14; i++) {
            x.tries(i, 1);
            CHECK.due("tried", i + 1, x.who(1, 4));
        }
        x.tries(0, 1);
        CHECK.due("a refused case is not tried", 14, x.who(1, 4));
        CHECK.due("nor by another", 0, x.who(0, 4));
    }

    // Promise 8, terms: "Into his WIG comes a RULE behind all: its CAUSE, RULING VERDICT by 20 (downwards, -9 .. 9
    // held), WEIGHT 9"
    // Promise 8, terms: "Quotients go downwards."
    private static void rulingIsTheVerdictByTwenty() {
        int[][] due = {{0, 0}, {19, 0}, {20, 1}, {39, 1}, {-1, -1}, {-20, -1}, {-21, -2}, {179, 8}, {180, 9}, {198, 9},
            {-179, -9}, {-180, -9}, {-181, -9}, {-198, -9}};
        for (int[] d : due) {
            int merit = Math.max(-99, Math.min(99, d[0]));
            WornWigs x = benchFor(merit, d[0] - merit);
            int last = x.of(WIG, 5);
            CHECK.due("verdict", d[0], x.tries(0, 0));
            CHECK.due("rules", last + 1, x.of(WIG, 5));
            CHECK.due("cause", 4, x.ruleOf(WIG, last, 0));
            CHECK.due("ruling by " + d[0], d[1], x.ruleOf(WIG, last, 1));
            CHECK.due("weight", 9, x.ruleOf(WIG, last, 2));
        }
        WornWigs y = benchFor(99, 99);
        y.rule(WIG, 4, 9, 2);
        CHECK.due("200", 200, y.tries(0, 0));
        CHECK.due("10 is held to 9", 9, y.ruleOf(WIG, 2, 1));
        WornWigs z = benchFor(-99, -99);
        z.rule(WIG, 4, -9, 3);
        CHECK.due("-201", -201, z.tries(0, 0));
        CHECK.due("-11 is held to -9", -9, z.ruleOf(WIG, 2, 1));
    }

    // Promise 8, terms: "Into his WIG comes a RULE behind all: its CAUSE, RULING VERDICT by 20 (downwards, -9 .. 9
    // held), WEIGHT 9"
    private static void withoutAWigNoRuleComes() {
        WornWigs x = Checks.bench(2, 2, 2);
        x.act(0, 1, 1);
        x.tries(0, 0);
        CHECK.due("none in a wig of nobody", 0, x.of(0, 5));
        CHECK.due("none in another's wig", 0, x.of(1, 5));
        CHECK.due("the case is tried all the same", 0, x.trialOf(0, 3));
        CHECK.due("its line is in the book", 2, x.look(6));
    }

    // Promise 8, terms: "(are there eight, the one with least WEIGHT goes ahead of that, of several the first)."
    private static void withSevenNoneGoes() {
        WornWigs x = benchFor(0, 0);
        for (int i = 0; i < 7; i++) {
            x.rule(WIG, 0, i, 1);
        }
        x.tries(0, 0);
        CHECK.due("rules", 8, x.of(WIG, 5));
        for (int i = 0; i < 7; i++) {
            CHECK.due("ruling " + i, i, x.ruleOf(WIG, i, 1));
        }
        CHECK.due("the new one is the last", 4, x.ruleOf(WIG, 7, 0));
    }

    // Promise 8, terms: "(are there eight, the one with least WEIGHT goes ahead of that, of several the first)."
    private static void ofEightTheLightestGoes() {
        int[][] weights = {{1, 2, 2, 2, 2, 2, 2, 2}, {2, 2, 2, 2, 2, 2, 2, 1}, {5, 4, 3, 3, 4, 3, 5, 5},
            {99, 99, 99, 99, 99, 99, 99, 99}, {98, 99, 99, 97, 99, 99, 98, 97}, {3, 2, 3, 2, 3, 3, 3, 3}};
        int[] goes = {0, 7, 2, 0, 3, 1};
        for (int k = 0; k < goes.length; k++) {
            WornWigs x = benchFor(0, 0);
            for (int i = 0; i < 8; i++) {
                x.rule(WIG, 0, i, weights[k][i]);
            }
            x.tries(0, 0);
            CHECK.due("rules", 8, x.of(WIG, 5));
            for (int i = 0; i < 7; i++) {
                CHECK.due("ruling " + i, i < goes[k] ? i : i + 1, x.ruleOf(WIG, i, 1));
                CHECK.due("weight " + i, weights[k][i < goes[k] ? i : i + 1], x.ruleOf(WIG, i, 2));
            }
            CHECK.due("the new one stays", 4, x.ruleOf(WIG, 7, 0));
            CHECK.due("its weight", 9, x.ruleOf(WIG, 7, 2));
            othersAreLeft(x);
        }
    }

    // Promise 8, terms: "ITCH is then how many couples of RULES of one CAUSE have RULINGS of unlike sign (one below,
    // one above 0), by 9 each (99 at most)."
    private static void itchOfWhatIsThereThen() {
        WornWigs x = benchFor(-1, 0);
        for (int i = 0; i < 8; i++) {
            x.rule(WIG, 5, i == 7 ? -1 : 1, i == 7 ? 1 : 2);
        }
        CHECK.due("seven couples", 63, x.of(WIG, 2));
        x.tries(0, 0);
        CHECK.due("the one below 0 went, the new one is of another cause", 0, x.of(WIG, 2));
        x.act(2, WIG, 5);
        x.trial(4, 40);
        x.tries(1, 0);
        CHECK.due("one below and one above 0", 9, x.of(WIG, 2));
        x.trial(4, 1);
        x.tries(2, 0);
        CHECK.due("0 is neither", 0, x.ruleOf(WIG, 2, 1));
        CHECK.due("so it itches no more", 9, x.of(WIG, 2));
    }

    // Promise 9: "What 0 ON (WIG who, JUDGE v),"
    // Promise 9, terms: "A WIG ON a JUDGE not DEAD without one: WIG, LENT one more"
    private static void onTheFirstAndTheLast() {
        WornWigs x = Checks.bench(8, 10, 0);
        CHECK.due("the last on the last", true, x.act(0, 7, 9));
        CHECK.due("the first on the first", true, x.act(0, 0, 0));
        CHECK.due("worn by the last", 9, x.of(7, 4));
        CHECK.due("the last wears", 7, x.who(9, 2));
        CHECK.due("lent", 1, x.of(7, 3));
        CHECK.due("another is not lent", 0, x.of(1, 3));
    }

    // Promise 9, terms: "(whoever wore it does no more)."
    private static void onAnotherHeadItLeavesTheFirst() {
        WornWigs x = Checks.bench(2, 3, 0);
        x.act(0, 1, 0);
        x.act(0, 1, 2);
        CHECK.due("the first wears none", -1, x.who(0, 2));
        CHECK.due("the next one does", 1, x.who(2, 2));
        CHECK.due("lent twice", 2, x.of(1, 3));
        CHECK.due("the first can have it again", true, x.act(0, 1, 0));
        CHECK.due("lent three times", 3, x.of(1, 3));
        CHECK.due("a wig that nobody wore takes none away", true, x.act(0, 0, 1));
        CHECK.due("the first still wears his", 1, x.who(0, 2));
    }

    // Promise 9: "1 OFF a WIG (v not asked),"
    // Promise 9, terms: "OFF: nobody wears it."
    private static void offWithAnyV() {
        WornWigs x = Checks.bench(8, 10, 0);
        int[] any = {MIN, -1, 0, 5, 10, 99, MAX};
        for (int v : any) {
            x.act(0, 7, 9);
            CHECK.due("off with " + v, true, x.act(1, 7, v));
            CHECK.due("nobody wears it", -1, x.of(7, 4));
            CHECK.due("he wears none", -1, x.who(9, 2));
        }
        CHECK.due("lent is not less", any.length, x.of(7, 3));
    }

    // Promise 9: "2 to COMB CAUSE v out,"
    // Promise 9, terms: "To COMB a CAUSE out: all its RULES go, ITCH anew."
    private static void combsAllOfACause() {
        WornWigs x = Checks.bench(2, 0, 0);
        int[] causes = {7, 0, 7, 0, 0, 7, 3, 7};
        for (int i = 0; i < 8; i++) {
            x.rule(1, causes[i], i % 3 - 1, i + 1);
            x.rule(0, causes[i], i % 3 - 1, i + 1);
        }
        CHECK.due("comb the last cause", true, x.act(2, 1, 7));
        int[] left = {2, 4, 5, 7};
        CHECK.due("rules", 4, x.of(1, 5));
        for (int i = 0; i < 4; i++) {
            CHECK.due("weight of what is left", left[i], x.ruleOf(1, i, 2));
        }
        CHECK.due("no fifth", -100, x.ruleOf(1, 4, 0));
        CHECK.due("another wig keeps all", 8, x.of(0, 5));
        // What is left of cause 0 rules 0, -1 and 0.
        CHECK.due("itch anew", 0, x.of(1, 2));
        CHECK.due("comb the first cause", true, x.act(2, 1, 0));
        CHECK.due("comb the only one", true, x.act(2, 1, 3));
        CHECK.due("rules", 0, x.of(1, 5));
    }

    // Promise 9, terms: "To COMB a CAUSE out: all its RULES go, ITCH anew."
    private static void whatIsNotOfTheCauseStaysWhereItIs() {
        WornWigs x = Checks.bench(2, 0, 0);
        for (int i = 0; i < 8; i++) {
            x.rule(1, i == 4 || i == 7 ? 2 : 3, i - 4, i + 1);
        }
        x.rule(0, 2, 1, 1);
        CHECK.due("comb the fifth and the last", true, x.act(2, 1, 2));
        int[] left = {1, 2, 3, 4, 6, 7};
        CHECK.due("rules", 6, x.of(1, 5));
        for (int i = 0; i < 6; i++) {
            CHECK.due("weight", left[i], x.ruleOf(1, i, 2));
            CHECK.due("ruling", left[i] - 5, x.ruleOf(1, i, 1));
            CHECK.due("cause", 3, x.ruleOf(1, i, 0));
        }
        CHECK.due("four below and two above 0", 72, x.of(1, 2));
        CHECK.due("another wig keeps its rule", 1, x.of(0, 5));
    }

    // Promise 9, terms: "To COMB a CAUSE out: all its RULES go, ITCH anew."
    private static void combsAFullWigOfOneCause() {
        WornWigs x = Checks.bench(1, 0, 0);
        for (int i = 0; i < 8; i++) {
            x.rule(0, 2, i < 4 ? 1 : -1, 1);
        }
        CHECK.due("itch", 99, x.of(0, 2));
        CHECK.due("comb", true, x.act(2, 0, 2));
        CHECK.due("rules", 0, x.of(0, 5));
        CHECK.due("itch anew", 0, x.of(0, 2));
        CHECK.dueLine(x, 0, 0, 4, 0, 8);
    }

    // Promise 9: "3 to BRUSH by v (1 .. 99): true;"
    // Promise 9, terms: "To BRUSH: HAIR N more (99 at most), WEIGHT of all RULES one less (1 at least)."
    private static void brushAtTheBounds() {
        int[][] due = {{0, 1, 1}, {0, 99, 99}, {98, 1, 99}, {99, 1, 99}, {98, 2, 99}, {99, 99, 99}, {1, 97, 98}};
        for (int[] d : due) {
            WornWigs x = benchFor(0, 0);
            x.set(2, WIG, d[0]);
            for (int i = 0; i < 8; i++) {
                x.rule(WIG, 0, 1, i == 0 ? 1 : i == 1 ? 2 : i == 7 ? 99 : 50);
            }
            CHECK.due("brush by " + d[1], true, x.act(3, WIG, d[1]));
            CHECK.due("hair of " + d[0] + " and " + d[1], d[2], x.of(WIG, 1));
            CHECK.due("weight 1 is 1 at least", 1, x.ruleOf(WIG, 0, 2));
            CHECK.due("weight 2", 1, x.ruleOf(WIG, 1, 2));
            CHECK.due("weight 99", 98, x.ruleOf(WIG, 7, 2));
            CHECK.due("another wig", 50, x.of(0, 1));
            othersAreLeft(x);
        }
    }

    // Promise 9: "false if it can't be (on: DEAD, has one; off: nobody wears it; combed: no such RULE),"
    private static void onTheDeadOrWhoHasOne() {
        WornWigs x = Checks.bench(3, 3, 0);
        Checks.kill(x, 2);
        x.act(0, 0, 0);
        CHECK.refused(x, "on a dead one", () -> x.act(0, 1, 2));
        CHECK.refused(x, "on one who has another", () -> x.act(0, 1, 0));
        CHECK.refused(x, "on one who has just that", () -> x.act(0, 0, 0));
    }

    // Promise 9: "false if it can't be (on: DEAD, has one; off: nobody wears it; combed: no such RULE),"
    private static void offWhatNobodyWears() {
        WornWigs x = Checks.bench(2, 2, 0);
        CHECK.refused(x, "off one that was never worn", () -> x.act(1, 0, 0));
        x.act(0, 0, 0);
        CHECK.refused(x, "off another one", () -> x.act(1, 1, 0));
        x.act(1, 0, 0);
        CHECK.refused(x, "off again", () -> x.act(1, 0, 0));
    }

    // Promise 9: "false if it can't be (on: DEAD, has one; off: nobody wears it; combed: no such RULE),"
    private static void combWhereNoSuchRuleIs() {
        WornWigs x = Checks.bench(2, 0, 0);
        x.rule(1, 0, 1, 1);
        x.rule(0, 3, 1, 1);
        CHECK.refused(x, "only another wig has one", () -> x.act(2, 0, 0));
        int[] others = {-1, 4, 7, 8, MIN, MAX};
        for (int c : others) {
            CHECK.refused(x, "comb " + c, () -> x.act(2, 0, c));
        }
        x.act(2, 0, 3);
        CHECK.refused(x, "it is combed out already", () -> x.act(2, 0, 3));
    }

    // Promise 9: "3 to BRUSH by v (1 .. 99): true;"
    private static void brushBeyondItsBounds() {
        WornWigs x = Checks.bench(1, 0, 0);
        x.rule(0, 0, 1, 9);
        int[] wrong = {0, -1, 100, MIN, MAX};
        for (int v : wrong) {
            CHECK.refused(x, "brush by " + v, () -> x.act(3, 0, v));
        }
    }

    // Promise 9: "false if it can't be (on: DEAD, has one; off: nobody wears it; combed: no such RULE),"
    private static void noSuchWigOrJudge() {
        WornWigs x = Checks.bench(2, 2, 0);
        x.rule(0, 1, 1, 9);
        x.rule(1, 1, 1, 9);
        x.act(0, 0, 0);
        int[] none = {-1, 2, 7, 8, 10, MIN, MAX};
        for (int w : none) {
            CHECK.refused(x, "on with wig " + w, () -> x.act(0, w, 1));
            CHECK.refused(x, "off with wig " + w, () -> x.act(1, w, 0));
            CHECK.refused(x, "comb with wig " + w, () -> x.act(2, w, 1));
            CHECK.refused(x, "brush with wig " + w, () -> x.act(3, w, 1));
            CHECK.refused(x, "on judge " + w, () -> x.act(0, 1, w));
        }
    }

    // Promise 9: "or another what."
    private static void actOfAnotherWhat() {
        WornWigs x = Checks.bench(1, 1, 0);
        x.rule(0, 0, 1, 9);
        int[] others = {-1, 4, MIN, MAX};
        for (int what : others) {
            CHECK.refused(x, "act(" + what + ", 0, 0)", () -> x.act(what, 0, 0));
            CHECK.refused(x, "act(" + what + ", 0, 1)", () -> x.act(what, 0, 1));
        }
    }

    // Promise 19: "Of line i of THE BOOK what 0 YEAR, 1 what, 2 which, 3 how much."
    // Promise 19, terms: "YEAR, what (0 tried, 1 on, 2 died, 3 moth ate a RULE, 4 combed), which (0: the CASE; 1, 3,
    // 4: the WIG; 2: the JUDGE), how much (0: VERDICT; 1: the JUDGE; 2: AGE; 3: its CAUSE; 4: how many RULES went)."
    private static void eachLineOfTheBook() {
        WornWigs x = Checks.bench(8, 10, 14);
        x.years(2);
        x.set(3, 13, -99);
        x.tries(13, 9);
        x.act(0, 7, 9);
        x.rule(7, 6, 1, 1);
        x.rule(7, 6, 2, 1);
        x.rule(7, 5, 2, 1);
        x.act(2, 7, 6);
        x.set(2, 7, 1);
        x.act(1, 7, 0);
        x.set(0, 9, 119);
        x.years(1);
        CHECK.due("lines", 5, x.look(6));
        CHECK.dueLine(x, 0, 2, 0, 13, -99);
        CHECK.dueLine(x, 1, 2, 1, 7, 9);
        CHECK.dueLine(x, 2, 2, 4, 7, 2);
        CHECK.dueLine(x, 3, 2, 2, 9, 120);
        CHECK.dueLine(x, 4, 2, 3, 7, 5);
    }

    // Promise 19: "NONE - 9999 if there is none such, or another what."
    private static void noSuchLine() {
        WornWigs x = Checks.bench(1, 1, 2);
        CHECK.due("an empty book", -10000, x.book(0, 0));
        x.tries(0, 0);
        x.tries(1, 0);
        int[] none = {-1, 2, 149, 150, MIN, MAX};
        for (int i : none) {
            CHECK.due("book(" + i + ", 0)", -10000, x.book(i, 0));
        }
        int[] others = {-1, 4, MIN, MAX};
        for (int what : others) {
            CHECK.due("book(1, " + what + ")", -10000, x.book(1, what));
        }
        CHECK.due("the last line", 1, x.book(1, 2));
    }

    // Promise 19, terms: "By hand: to TRY, ON, OFF, to COMB, to BRUSH. THE BOOK (150 lines; no more then):"
    private static void offAndBrushWriteNothing() {
        WornWigs x = Checks.bench(1, 1, 0);
        x.act(0, 0, 0);
        x.act(1, 0, 0);
        x.act(3, 0, 1);
        CHECK.due("on alone", 1, x.look(6));
        x.years(1);
        CHECK.due("a year in which nothing is to be told", 1, x.look(6));
    }

    // Promise 19, terms: "By hand: to TRY, ON, OFF, to COMB, to BRUSH. THE BOOK (150 lines; no more then):"
    private static void bookHasOneHundredAndFiftyLines() {
        WornWigs x = Checks.bench(2, 2, 1);
        for (int i = 0; i < 149; i++) {
            x.act(0, 0, i % 2);
        }
        CHECK.due("149 lines", 149, x.look(6));
        x.act(0, 1, 1);
        CHECK.due("150 lines", 150, x.look(6));
        CHECK.dueLine(x, 149, 0, 1, 1, 1);
        CHECK.due("a case is tried all the same", 0, x.tries(0, 0));
        CHECK.due("no line more", 150, x.look(6));
        CHECK.dueLine(x, 149, 0, 1, 1, 1);
        CHECK.due("no line 150", -10000, x.book(150, 0));
        CHECK.dueLine(x, 0, 0, 1, 0, 0);
    }

    // Promise 19, terms: "By hand: to TRY, ON, OFF, to COMB, to BRUSH. THE BOOK (150 lines; no more then):"
    private static void aFullBookStaysFullThroughYears() {
        WornWigs x = Checks.bench(1, 2, 0);
        for (int i = 0; i < 149; i++) {
            x.act(0, 0, i % 2);
        }
        x.set(0, 0, 119);
        CHECK.due("one dies", 1, x.years(1));
        CHECK.due("there was room for his death alone", 150, x.look(6));
        CHECK.dueLine(x, 149, 0, 2, 0, 120);
        CHECK.due("the wig goes on all the same", 1, x.of(0, 4));
        x.undo();
        CHECK.due("undone", 149, x.look(6));
        CHECK.due("undone", -10000, x.book(149, 0));
    }
}
