/** Promises 8, 9 and 19: to try, on, off, to comb, to brush, and what THE BOOK has of it. */
public final class CourtTest {
    private static final Checks CHECK = new Checks();

    public static void main(String[] args) {
        verdictByMeritMindAndWig();
        ruleIsLeftBehind();
        fullWigLosesItsLightest();
        countsAreAskedAhead();
        whatCannotBeTried();
        onAndOff();
        combing();
        brushing();
        bookHasItsLines();
        bookIsFull();
        CHECK.end();
    }

    private static WornWigs bench() {
        WornWigs x = new WornWigs();
        x.wig(0, 50);
        x.wig(1, 60);
        x.judge(40, 2);
        x.judge(50, -3);
        for (int i = 0; i < 14; i++) {
            x.trial(i % 3, 10 * i - 50);
        }
        return x;
    }

    private static void verdictByMeritMindAndWig() {
        WornWigs x = bench();
        CHECK.due("without a wig", -50 + 6, x.tries(0, 0));
        x.rule(0, 0, 5, 10);
        x.rule(0, 0, -5, 10);
        x.rule(0, 1, 9, 99);
        x.act(0, 0, 0);
        // 50 by 9 is 5, -50 by 9 is -6: each goes downwards.
        CHECK.due("with a wig", -20 + 6 + 5 - 6, x.tries(3, 0));
        CHECK.due("another judge", -10 - 9, x.tries(4, 1));
        CHECK.due("tried of 0", 2, x.who(0, 4));
        CHECK.due("tried of 1", 1, x.who(1, 4));
        CHECK.due("verdict", -15, x.trialOf(3, 2));
        CHECK.due("by", 0, x.trialOf(3, 3));
        CHECK.due("open", ((1 << 14) - 1) & ~(1 | 8 | 16), x.look(5));
    }

    private static void ruleIsLeftBehind() {
        WornWigs x = bench();
        x.act(0, 1, 1);
        x.tries(5, 1);
        CHECK.due("verdict", -9, x.trialOf(5, 2));
        CHECK.due("rules of the wig", 1, x.of(1, 5));
        CHECK.due("rules of the other wig", 0, x.of(0, 5));
        CHECK.due("cause", 2, x.ruleOf(1, 0, 0));
        CHECK.due("ruling goes downwards", -1, x.ruleOf(1, 0, 1));
        CHECK.due("weight", 9, x.ruleOf(1, 0, 2));
        x.tries(8, 1);
        CHECK.due("verdict by rule", 30 - 9 - 1, x.trialOf(8, 2));
        CHECK.due("ruling", 1, x.ruleOf(1, 1, 1));
        CHECK.due("itch", 9, x.of(1, 2));
        WornWigs y = new WornWigs();
        y.wig(0, 9);
        y.judge(1, 9);
        y.trial(0, 99);
        y.trial(1, -99);
        for (int i = 0; i < 3; i++) {
            y.rule(0, 0, 9, 99);
            y.rule(0, 1, -9, 99);
        }
        y.act(0, 0, 0);
        CHECK.due("a great verdict", 99 + 27 + 3 * 99, y.tries(0, 0));
        CHECK.due("greatest ruling", 9, y.ruleOf(0, 6, 1));
        CHECK.due("a small verdict", -99 + 27 - 3 * 99, y.tries(1, 0));
        CHECK.due("least ruling", -9, y.ruleOf(0, 7, 1));
    }

    private static void fullWigLosesItsLightest() {
        WornWigs x = bench();
        int[] weights = {9, 7, 5, 8, 5, 9, 9, 9};
        for (int i = 0; i < 8; i++) {
            x.rule(0, 7, i - 4, weights[i]);
        }
        x.act(0, 0, 0);
        CHECK.due("itch", 12 * 9 > 99 ? 99 : 12 * 9, x.of(0, 2));
        x.tries(5, 0);
        CHECK.due("rules", 8, x.of(0, 5));
        int[] due = {-4, -3, -1, 0, 1, 2, 3, 0};
        for (int i = 0; i < 8; i++) {
            CHECK.due("ruling " + i, due[i], x.ruleOf(0, i, 1));
        }
        CHECK.due("cause of the last", 2, x.ruleOf(0, 7, 0));
        CHECK.due("itch anew", 81, x.of(0, 2));
        WornWigs y = bench();
        for (int i = 0; i < 8; i++) {
            y.rule(0, 7, i, i == 0 ? 1 : 2);
        }
        y.act(0, 0, 0);
        y.tries(0, 0);
        CHECK.due("the first went", 1, y.ruleOf(0, 0, 1));
    }

    private static void countsAreAskedAhead() {
        WornWigs x = bench();
        x.rule(0, 0, 9, 1);
        x.act(0, 0, 0);
        Checks.text(x, 0, "counts tried * 10 + lent;");
        CHECK.due("tried 0", -50 + 6 + 1, x.tries(0, 0));
        CHECK.due("ruling", -3, x.ruleOf(0, 1, 1));
        // 9 * 11 by 9, and -3 * 11 by 9 downwards
        CHECK.due("tried 1", -20 + 6 + 11 - 4, x.tries(3, 0));
    }

    private static void whatCannotBeTried() {
        WornWigs x = bench();
        CHECK.due("no such case", -10000, x.tries(14, 0));
        CHECK.due("no such case", -10000, x.tries(-1, 0));
        CHECK.due("no such judge", -10000, x.tries(0, 2));
        CHECK.due("no such judge", -10000, x.tries(0, -1));
        x.tries(0, 0);
        CHECK.due("tried already", -10000, x.tries(0, 1));
        x.set(0, 1, 119);
        x.years(1);
        CHECK.due("a dead judge", -10000, x.tries(1, 1));
        CHECK.due("tried of 1", 0, x.who(1, 4));
        CHECK.due("what can be undone", 1, x.look(12));
    }

    private static void onAndOff() {
        WornWigs x = bench();
        CHECK.due("on", true, x.act(0, 0, 0));
        CHECK.due("worn by", 0, x.of(0, 4));
        CHECK.due("wears", 0, x.who(0, 2));
        CHECK.due("on one who has it", false, x.act(0, 0, 0));
        CHECK.due("on one who has one", false, x.act(0, 1, 0));
        CHECK.due("no such judge", false, x.act(0, 1, 2));
        CHECK.due("no such wig", false, x.act(0, 2, 1));
        CHECK.due("no such wig", false, x.act(0, -1, 1));
        CHECK.due("on the next", true, x.act(0, 0, 1));
        CHECK.due("wears no more", -1, x.who(0, 2));
        CHECK.due("worn by the next", 1, x.of(0, 4));
        CHECK.due("lent", 2, x.of(0, 3));
        CHECK.due("off one that is not worn", false, x.act(1, 1, 0));
        CHECK.due("off", true, x.act(1, 0, 77));
        CHECK.due("worn by nobody", -1, x.of(0, 4));
        CHECK.due("wears nothing", -1, x.who(1, 2));
        CHECK.due("off again", false, x.act(1, 0, 0));
        CHECK.due("lent is not less", 2, x.of(0, 3));
        x.set(0, 0, 119);
        x.years(1);
        CHECK.due("on a dead one", false, x.act(0, 0, 0));
        CHECK.due("another what", false, x.act(4, 0, 0));
        CHECK.due("another what", false, x.act(-1, 0, 0));
    }

    private static void combing() {
        WornWigs x = bench();
        int[] causes = {1, 2, 1, 3, 1};
        for (int i = 0; i < 5; i++) {
            x.rule(0, causes[i], i - 2, i + 1);
        }
        CHECK.due("itch", 9, x.of(0, 2));
        CHECK.due("no such rule", false, x.act(2, 0, 0));
        CHECK.due("no such cause", false, x.act(2, 0, 8));
        CHECK.due("no such cause", false, x.act(2, 0, -1));
        CHECK.due("no such wig", false, x.act(2, 2, 1));
        CHECK.due("comb", true, x.act(2, 0, 1));
        CHECK.due("rules left", 2, x.of(0, 5));
        CHECK.due("itch anew", 0, x.of(0, 2));
        CHECK.due("first left", 2, x.ruleOf(0, 0, 0));
        CHECK.due("second left", 3, x.ruleOf(0, 1, 0));
        CHECK.due("its weight", 4, x.ruleOf(0, 1, 2));
        CHECK.dueLine(x, 0, 0, 4, 0, 3);
        CHECK.due("comb the first", true, x.act(2, 0, 2));
        CHECK.due("comb the only one", true, x.act(2, 0, 3));
        CHECK.due("rules left", 0, x.of(0, 5));
    }

    private static void brushing() {
        WornWigs x = bench();
        x.rule(0, 0, 1, 1);
        x.rule(0, 0, 1, 2);
        x.rule(0, 0, 1, 99);
        CHECK.due("brush by 0", false, x.act(3, 0, 0));
        CHECK.due("brush by 100", false, x.act(3, 0, 100));
        CHECK.due("brush no wig", false, x.act(3, 2, 1));
        CHECK.due("brush by 1", true, x.act(3, 0, 1));
        CHECK.due("hair", 51, x.of(0, 1));
        int[] due = {1, 1, 98};
        for (int i = 0; i < 3; i++) {
            CHECK.due("weight " + i, due[i], x.ruleOf(0, i, 2));
        }
        CHECK.due("brush by 99", true, x.act(3, 0, 99));
        CHECK.due("hair", 99, x.of(0, 1));
        CHECK.due("weight", 97, x.ruleOf(0, 2, 2));
        CHECK.due("the book has nothing of it", 0, x.look(6));
    }

    private static void bookHasItsLines() {
        WornWigs x = bench();
        x.years(3);
        x.act(0, 1, 0);
        x.act(1, 1, 0);
        x.tries(6, 1);
        x.rule(1, 4, 1, 1);
        x.rule(1, 4, 1, 1);
        x.act(2, 1, 4);
        x.rule(0, 5, 1, 1);
        x.set(2, 0, 0);
        x.set(0, 1, 119);
        x.act(0, 0, 1);
        x.years(1);
        CHECK.due("lines", 7, x.look(6));
        CHECK.dueLine(x, 0, 3, 1, 1, 0);
        CHECK.dueLine(x, 1, 3, 0, 6, 1);
        CHECK.dueLine(x, 2, 3, 4, 1, 2);
        CHECK.dueLine(x, 3, 3, 1, 0, 1);
        CHECK.dueLine(x, 4, 3, 2, 1, 120);
        CHECK.dueLine(x, 5, 3, 1, 0, 0);
        CHECK.dueLine(x, 6, 3, 3, 0, 5);
        CHECK.due("no such line", -10000, x.book(7, 0));
        CHECK.due("no such line", -10000, x.book(-1, 0));
        CHECK.due("another what", -10000, x.book(0, 4));
        CHECK.due("another what", -10000, x.book(0, -1));
    }

    private static void bookIsFull() {
        WornWigs x = bench();
        for (int i = 0; i < 160; i++) {
            CHECK.due("on", true, x.act(0, i % 2, 0));
            x.act(1, i % 2, 0);
        }
        CHECK.due("lines", 150, x.look(6));
        CHECK.dueLine(x, 149, 0, 1, 1, 0);
        CHECK.due("no such line", -10000, x.book(150, 0));
        CHECK.due("lent all the same", 80, x.of(1, 3));
    }
}
