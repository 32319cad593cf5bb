/** The edges of a YEAR, sentence by sentence: promise 10. */
public final class EdgesYearsTest {
    private static final Checks CHECK = new Checks();
    private static final int MIN = Integer.MIN_VALUE;
    private static final int MAX = Integer.MAX_VALUE;
    private static final int TIMES = 1664525;
    private static final int MORE = 1013904223;

    public static void main(String[] args) {
        CHECK.runAll(EdgesYearsTest.class);
        CHECK.end();
    }

    /** The STATE that becomes this one by a DRAW. */
    private static int stateBefore(int next) {
        int inverse = TIMES;
        for (int i = 0; i < 5; i++) {
            inverse *= 2 - TIMES * inverse;
        }
        return (next - MORE) * inverse;
    }

    /** Whether a JUDGE dies if dies is so much and STATE becomes next by the DRAW. */
    private static boolean diesBy(int next, int dies) {
        WornWigs x = Checks.bench(0, 1, 0);
        Checks.text(x, 0, "dies " + dies + ";");
        x.state(stateBefore(next));
        boolean died = x.years(1) == 1;
        CHECK.due("state", next, x.look(7));
        CHECK.due("dead", died, x.who(0, 3) == 1);
        return died;
    }

    // Promise 10: "YEARS go by (1 .. 60): how many died."
    private static void oneYearAndSixty() {
        WornWigs x = Checks.bench(0, 3, 0);
        x.set(0, 0, 119);
        x.set(0, 1, 118);
        Checks.text(x, 0, "dies 0;");
        CHECK.due("one year", 1, x.years(1));
        CHECK.due("year", 1, x.look(3));
        CHECK.due("sixty years", 1, x.years(60));
        CHECK.due("year", 61, x.look(3));
        CHECK.due("all die in the end", 1, x.years(60));
        CHECK.due("nobody is left", 0, x.years(60));
    }

    // Promise 10: "NONE, and nothing is done, if one can't be,"
    private static void noYearsAndTooMany() {
        WornWigs x = Checks.bench(2, 2, 1);
        x.act(0, 0, 0);
        int[] wrong = {0, -1, 61, MIN, MAX};
        for (int n : wrong) {
            CHECK.refused(x, "years(" + n + ")", -1, () -> x.years(n));
        }
    }

    // Promise 10: "or YEAR would be above 9999."
    // Promise 10, terms: "YEAR 0 .. 9999 (0 at first)."
    private static void yearIsNeverAbove9999() {
        WornWigs x = new WornWigs();
        CHECK.due("0 at first", 0, x.look(3));
        for (int i = 0; i < 166; i++) {
            x.years(60);
        }
        CHECK.refused(x, "9960 and 40", -1, () -> x.years(40));
        CHECK.refused(x, "9960 and 60", -1, () -> x.years(60));
        CHECK.due("9960 and 39", 0, x.years(39));
        CHECK.due("year", 9999, x.look(3));
        CHECK.refused(x, "9999 and 1", -1, () -> x.years(1));
        CHECK.due("undone", true, x.undo());
        CHECK.due("9998 and 1", 0, x.years(1));
        CHECK.due("year", 9999, x.look(3));
    }

    // Promise 10, terms: "a DRAW of m: it becomes 1664525 times itself + 1013904223 (ints, which wrap),"
    private static void stateWraps() {
        int[] states = {0, 1, -1, MIN, MAX, 65536, 1 << 30};
        for (int state : states) {
            WornWigs x = Checks.bench(0, 1, 0);
            Checks.text(x, 0, "dies 1;");
            x.state(state);
            x.years(1);
            long next = (state * 1664525L + 1013904223L) & 0xffffffffL;
            CHECK.due("state behind " + state, (int) next, x.look(7));
        }
    }

    // Promise 10, terms: "then it is its highest 24 bits (without sign) modulo m."
    private static void drawIsTheHighestBits() {
        CHECK.due("255 is a draw of 0", true, diesBy(255, 1));
        CHECK.due("256 is a draw of 1", false, diesBy(256, 1));
        CHECK.due("256 is a draw of 1", true, diesBy(256, 2));
        CHECK.due("a draw of 999", false, diesBy(999 << 8, 999));
        CHECK.due("a draw of 999", true, diesBy(999 << 8, 1000));
        CHECK.due("1000 is a draw of 0", true, diesBy(1000 << 8, 1));
        // The highest 24 bits of -1 are 16777215, those of the least int 8388608.
        CHECK.due("a draw of 215 below 0", false, diesBy(-1, 215));
        CHECK.due("a draw of 215 below 0", true, diesBy(-1, 216));
        CHECK.due("a draw of 608 at the least", false, diesBy(MIN, 608));
        CHECK.due("a draw of 608 at the least", true, diesBy(MIN, 609));
        CHECK.due("a draw of 607 at the greatest", false, diesBy(MAX, 607));
        CHECK.due("a draw of 607 at the greatest", true, diesBy(MAX, 608));
    }

    // Promise 10, terms: "A YEAR. (a) Line by line of LOANS, then of DOCKET for it what can be done."
    private static void linesOfTheirYearAlone() {
        WornWigs x = Checks.bench(1, 1, 3);
        Checks.text(x, 0, "moth 0;");
        Checks.text(x, 1, "in 2 case 2 before 0;in 0 case 0 before 0;in 1 case 1 before 0;");
        Checks.text(x, 2, "in 1 brush 0 1;in 0 brush 0 2;in 2 brush 0 3;");
        int[] open = {6, 4, 0, 0};
        int[] hair = {52, 53, 56, 56};
        for (int year = 0; year < 4; year++) {
            x.years(1);
            CHECK.due("open after year " + year, open[year], x.look(5));
            CHECK.due("hair after year " + year, hair[year], x.of(0, 1));
        }
    }

    // Promise 10, terms: "(YEARS 0 .. 999.)"
    private static void lineOfTheYear999() {
        WornWigs x = Checks.bench(1, 1, 1);
        for (int i = 0; i < 16; i++) {
            x.years(60);
        }
        x.years(39);
        CHECK.due("year", 999, x.look(3));
        x.judge(30, 0);
        x.set(2, 0, 50);
        CHECK.dueText(x, 1, "in 999 case 0 before 1;", 1);
        CHECK.dueText(x, 2, "in 999 wig 0 on 1;", 1);
        x.years(1);
        CHECK.due("tried", 1, x.trialOf(0, 3));
        CHECK.due("worn", 1, x.of(0, 4));
        CHECK.dueLine(x, x.look(6) - 1, 999, 0, 0, 0);
    }

    // Promise 10, terms: "A YEAR. (a) Line by line of LOANS, then of DOCKET for it what can be done."
    private static void loansAheadOfDocketLineByLine() {
        WornWigs x = Checks.bench(2, 2, 2);
        x.rule(0, 0, 9, 9);
        Checks.text(x, 1, "in 0 case 1 before 0;in 0 case 0 before 1;");
        Checks.text(x, 2, "in 0 wig 0 on 0;in 0 wig 0 on 1;in 0 wig 1 on 0;in 0 comb 0 0;");
        x.years(1);
        int[][] lines = {{1, 0, 0}, {1, 0, 1}, {1, 1, 0}, {4, 0, 1}, {0, 1, 0}, {0, 0, 0}};
        CHECK.due("lines", lines.length, x.look(6));
        for (int i = 0; i < lines.length; i++) {
            CHECK.dueLine(x, i, 0, lines[i][0], lines[i][1], lines[i][2]);
        }
    }

    // Promise 10, terms: "A YEAR. (a) Line by line of LOANS, then of DOCKET for it what can be done."
    private static void sixteenthLinesAreDoneToo() {
        WornWigs x = Checks.bench(1, 1, 2);
        Checks.text(x, 0, "moth 0;");
        CHECK.dueText(x, 1, "in 9 case 0 before 0;".repeat(15) + "in 0 case 1 before 0;", 16);
        CHECK.dueText(x, 2, "in 0 brush 0 1;".repeat(15) + "in 0 brush 0 9;", 16);
        x.years(1);
        CHECK.due("the sixteenth case", 1, x.look(5));
        CHECK.due("all sixteen brushings", 50 + 15 + 9, x.of(0, 1));
    }

    // Promise 10, terms: "A YEAR. (a) Line by line of LOANS, then of DOCKET for it what can be done."
    private static void whatCannotBeDoneIsPassedOver() {
        WornWigs x = Checks.bench(2, 3, 2);
        Checks.kill(x, 2);
        x.act(0, 0, 0);
        Checks.text(x, 1, "in 1 case 0 before 2;in 1 case 0 before 0;in 1 case 0 before 1;in 1 case 1 before 1;");
        Checks.text(x, 2, "in 1 wig 1 on 2;in 1 wig 1 on 0;in 1 off 1;in 1 comb 1 0;in 1 wig 1 on 1;");
        int before = x.look(6);
        x.years(1);
        CHECK.due("lines: on, tried, tried", before + 3, x.look(6));
        CHECK.dueLine(x, before, 1, 1, 1, 1);
        CHECK.dueLine(x, before + 1, 1, 0, 0, 0);
        CHECK.dueLine(x, before + 2, 1, 0, 1, 0);
        CHECK.due("by", 0, x.trialOf(0, 3));
        CHECK.due("by", 1, x.trialOf(1, 3));
        CHECK.due("lent once", 1, x.of(1, 3));
    }

    // Promise 10, terms: "(b) JUDGE by JUDGE not DEAD: AGE is one more (120 at most);"
    private static void ageIsOneMore() {
        WornWigs x = Checks.bench(0, 4, 0);
        int[] ages = {0, 59, 118, 120};
        int[] due = {1, 60, 119, 120};
        for (int j = 0; j < 4; j++) {
            x.set(0, j, ages[j]);
        }
        Checks.text(x, 0, "dies 0;");
        CHECK.due("one died", 1, x.years(1));
        for (int j = 0; j < 4; j++) {
            CHECK.due("age of " + j, due[j], x.who(j, 0));
        }
        CHECK.due("the one at 120", 8, x.look(4));
    }

    // Promise 10, terms: "(b) JUDGE by JUDGE not DEAD: AGE is one more (120 at most);"
    private static void theDeadAreLeftAsTheyAre() {
        WornWigs x = Checks.bench(0, 2, 0);
        Checks.kill(x, 0);
        x.set(0, 0, 50);
        Checks.text(x, 0, "dies 1000 when age = 51;");
        int lines = x.look(6);
        int state = x.look(7);
        CHECK.due("nobody died", 0, x.years(1));
        CHECK.due("he grows no older", 50, x.who(0, 0));
        CHECK.due("he dies no second time", lines, x.look(6));
        CHECK.due("nobody drew", state, x.look(7));
    }

    // Promise 10, terms: "if dies is above 0 (asked), a DRAW of 1000: below it he is DEAD;"
    private static void noDrawIfDiesIsNought() {
        WornWigs x = Checks.bench(0, 3, 0);
        int[] ages = {59, 60, 58};
        for (int j = 0; j < 3; j++) {
            x.set(0, j, ages[j]);
        }
        x.years(1);
        CHECK.due("one drew", MORE, x.look(7));
        CHECK.due("9 is not above the draw", 0, x.look(4));
        WornWigs y = Checks.bench(0, 1, 0);
        Checks.text(y, 0, "dies 0 - 1;");
        y.years(1);
        CHECK.due("less than 0 is 0", 0, y.look(7));
        Checks.text(y, 0, "dies 1;");
        y.years(1);
        CHECK.due("1 is above 0", MORE, y.look(7));
    }

    // Promise 10, terms: "if dies is above 0 (asked), a DRAW of 1000: below it he is DEAD;"
    private static void diesIsAskedAfterHisBirthday() {
        WornWigs x = Checks.bench(1, 2, 0);
        x.set(0, 0, 49);
        x.set(0, 1, 50);
        Checks.text(x, 0, "dies 1000 when age = 50;");
        CHECK.due("one died", 1, x.years(1));
        CHECK.due("who is 50 then", 1, x.look(4));
        WornWigs y = Checks.bench(1, 2, 0);
        y.act(0, 0, 0);
        y.set(0, 0, 119);
        Checks.text(y, 0, "dies 1000 when lent = 2;");
        CHECK.due("he dies by the wig that he has just got", 2, y.years(1));
    }

    // Promise 10, terms: "at AGE 120 he is in any case."
    private static void at120InAnyCase() {
        WornWigs x = Checks.bench(0, 2, 0);
        x.set(0, 0, 119);
        x.set(0, 1, 118);
        Checks.text(x, 0, "dies 1;");
        // Both draw above 0.
        x.state(stateBefore(500 << 8));
        CHECK.due("one died", 1, x.years(1));
        CHECK.due("who is 120", 1, x.look(4));
        CHECK.due("both drew", (500 << 8) * TIMES + MORE, x.look(7));
        WornWigs y = Checks.bench(0, 1, 0);
        y.set(0, 0, 119);
        Checks.text(y, 0, "dies 0;");
        CHECK.due("without a draw", 1, y.years(1));
        CHECK.due("without a draw", 0, y.look(7));
        CHECK.dueLine(y, 0, 0, 2, 0, 120);
    }

    // Promise 10, terms: "Of who died his WIG goes ON the JUDGE not DEAD without one with least AGE (of several the
    // least number; as they are now), else to nobody."
    private static void wigGoesOnTheYoungestWithoutOne() {
        WornWigs x = Checks.bench(2, 6, 0);
        Checks.kill(x, 2);
        int[] ages = {119, 20, 10, 40, 30, 30};
        for (int j = 0; j < 6; j++) {
            x.set(0, j, ages[j]);
        }
        x.act(0, 0, 0);
        x.act(0, 1, 1);
        x.years(1);
        CHECK.due("2 is dead, 1 has one, 4 and 5 are the youngest then", 4, x.of(0, 4));
        CHECK.due("the dead has none", -1, x.who(0, 2));
        CHECK.due("lent", 2, x.of(0, 3));
    }

    // Promise 10, terms: "Of who died his WIG goes ON the JUDGE not DEAD without one with least AGE (of several the
    // least number; as they are now), else to nobody."
    private static void byAgesAsTheyAreAtThatMoment() {
        WornWigs x = Checks.bench(1, 3, 0);
        x.set(0, 0, 29);
        x.set(0, 1, 119);
        x.set(0, 2, 30);
        x.act(0, 0, 1);
        x.years(1);
        CHECK.due("29 has become 30, 30 is still 30: the least number", 0, x.of(0, 4));
        WornWigs y = Checks.bench(1, 3, 0);
        y.set(0, 1, 119);
        y.act(0, 0, 1);
        y.years(1);
        CHECK.due("30 has become 31, 30 is still 30", 2, y.of(0, 4));
    }

    // Promise 10, terms: "Of who died his WIG goes ON the JUDGE not DEAD without one with least AGE (of several the
    // least number; as they are now), else to nobody."
    private static void whoDiesLaterInTheYearHasItFirst() {
        WornWigs x = Checks.bench(1, 3, 0);
        x.set(0, 0, 119);
        x.set(0, 1, 119);
        x.set(0, 2, 118);
        x.act(0, 0, 0);
        Checks.text(x, 0, "dies 0;");
        CHECK.due("two died", 2, x.years(1));
        CHECK.due("118 is least, and lives on", 2, x.of(0, 4));
        WornWigs y = Checks.bench(1, 2, 0);
        y.set(0, 0, 119);
        y.set(0, 1, 119);
        y.act(0, 0, 0);
        y.years(1);
        CHECK.due("nobody is left", -1, y.of(0, 4));
        CHECK.due("but 1 had it for a moment", 2, y.of(0, 3));
        int[][] lines = {{1, 0, 0}, {2, 0, 120}, {1, 0, 1}, {2, 1, 120}};
        for (int i = 0; i < lines.length; i++) {
            CHECK.dueLine(y, i, 0, lines[i][0], lines[i][1], lines[i][2]);
        }
    }

    // Promise 10, terms: "Of who died his WIG goes ON the JUDGE not DEAD without one with least AGE (of several the
    // least number; as they are now), else to nobody."
    private static void elseToNobody() {
        WornWigs x = Checks.bench(2, 3, 0);
        x.act(0, 0, 0);
        x.act(0, 1, 1);
        Checks.kill(x, 2);
        Checks.kill(x, 0);
        CHECK.due("one has a wig, one is dead", -1, x.of(0, 4));
        CHECK.due("the dead has none", -1, x.who(0, 2));
        CHECK.due("not lent again", 1, x.of(0, 3));
        CHECK.due("the other keeps his", 1, x.of(1, 4));
        CHECK.due("it can be put on again", false, x.act(0, 0, 1));
    }

    // Promise 10, terms: "(c) WIG by WIG: HAIR is moth less (0 at least);"
    private static void hairIsMothLess() {
        int[][] due = {{5, 0, 5}, {5, 4, 1}, {5, 5, 0}, {5, 6, 0}, {99, 99, 0}, {99, 98, 1}, {0, 0, 0}, {0, 99, 0}};
        for (int[] d : due) {
            WornWigs x = Checks.bench(8, 0, 0);
            x.set(2, 7, d[0]);
            Checks.text(x, 0, "moth " + d[1] + ";");
            x.years(1);
            CHECK.due("hair " + d[0] + " with moth " + d[1], d[2], x.of(7, 1));
        }
    }

    // Promise 10, terms: "is it 0 then, its first RULE goes (if any), ITCH anew;"
    private static void withoutHairTheFirstRuleGoes() {
        int[][] hairs = {{2, 3, 0}, {1, 2, 0}, {0, 2, 0}, {2, 3, 7}, {1, 2, 7}, {0, 2, 7}};
        for (int[] h : hairs) {
            int wig = h[2];
            WornWigs x = Checks.bench(8, 0, 0);
            x.set(2, wig, h[0]);
            x.rule(wig, 3, 1, 7);
            x.rule(wig, 4, 1, 8);
            x.rule(wig, 3, -1, 9);
            CHECK.due("itch", 9, x.of(wig, 2));
            Checks.text(x, 0, "moth 1;");
            x.years(1);
            CHECK.due("rules with hair " + h[0], h[1], x.of(wig, 5));
            CHECK.due("itch", h[1] == 3 ? 9 : 0, x.of(wig, 2));
            CHECK.due("the first", h[1] == 3 ? 7 : 8, x.ruleOf(wig, 0, 2));
            CHECK.due("the last", 9, x.ruleOf(wig, h[1] - 1, 2));
            CHECK.due("lines", h[1] == 3 ? 0 : 1, x.look(6));
        }
    }

    // Promise 10, terms: "is it 0 then, its first RULE goes (if any), ITCH anew;"
    private static void withoutRulesMothEatsNone() {
        WornWigs x = Checks.bench(1, 0, 0);
        x.set(2, 0, 0);
        x.rule(0, 7, 1, 7);
        x.years(1);
        CHECK.due("rules", 0, x.of(0, 5));
        CHECK.dueLine(x, 0, 0, 3, 0, 7);
        x.years(1);
        CHECK.due("rules", 0, x.of(0, 5));
        CHECK.due("lines", 1, x.look(6));
    }

    // Promise 10, terms: "WEIGHT of all RULES of a WIG that is worn is one more (99 at most)."
    private static void weightsOfWornWigs() {
        int[] weights = {1, 97, 98, 99, 50, 1, 1, 1};
        int[] due = {2, 98, 99, 99, 51, 2, 2, 2};
        for (int worn = 0; worn <= 7; worn += 7) {
            WornWigs x = Checks.bench(8, 1, 0);
            for (int i = 0; i < 64; i++) {
                x.rule(i / 8, 0, 1, weights[i % 8]);
            }
            x.act(0, worn, 0);
            x.years(1);
            for (int i = 0; i < 64; i++) {
                CHECK.due("weight of rule " + i, i / 8 == worn ? due[i % 8] : weights[i % 8], x.ruleOf(i / 8, i % 8, 2));
            }
        }
    }

    // Promise 10, terms: "WEIGHT of all RULES of a WIG that is worn is one more (99 at most)."
    private static void wornIsAskedBehindTheDeaths() {
        WornWigs x = Checks.bench(2, 2, 0);
        x.rule(0, 0, 1, 5);
        x.act(0, 0, 0);
        x.set(0, 0, 119);
        x.years(1);
        CHECK.due("passed on, it is worn", 6, x.ruleOf(0, 0, 2));
        x.set(0, 1, 119);
        x.years(1);
        CHECK.due("nobody is left, it is not worn", 6, x.ruleOf(0, 0, 2));
    }

    // Promise 10, terms: "(d) YEAR is one more."
    private static void yearIsOneMoreAtTheEnd() {
        WornWigs x = Checks.bench(1, 1, 1);
        Checks.text(x, 0, "moth 9 when year = 0; moth 0;");
        Checks.text(x, 1, "in 0 case 0 before 0;");
        x.years(1);
        CHECK.due("year", 1, x.look(3));
        CHECK.due("moth was asked in the year 0", 41, x.of(0, 1));
        CHECK.due("the book has the year 0", 0, x.book(0, 0));
        x.years(2);
        CHECK.due("year", 3, x.look(3));
        CHECK.due("moth", 41, x.of(0, 1));
    }
}
