/** Promise 10: a YEAR, from LOANS and DOCKET to moth. */
public final class YearsTest {
    private static final Checks CHECK = new Checks();

    public static void main(String[] args) {
        whatCannotBe();
        yearsAreCounted();
        drawsDecide();
        drawsOnlyIfDiesIsAboveNought();
        wigPassesOn();
        wigPassesOnByAgesAsTheyAreNow();
        wigPassesOnTwiceInAYear();
        mothEats();
        wornRulesGrowHeavier();
        loansThenDocket();
        whatCannotBeDoneIsLeft();
        CHECK.end();
    }

    private static void whatCannotBe() {
        WornWigs x = new WornWigs();
        int[] wrong = {0, -1, 61, Integer.MIN_VALUE, Integer.MAX_VALUE};
        for (int n : wrong) {
            CHECK.due("years(" + n + ")", -1, x.years(n));
        }
        CHECK.due("year", 0, x.look(3));
        CHECK.due("undo", false, x.undo());
    }

    private static void yearsAreCounted() {
        WornWigs x = new WornWigs();
        x.judge(0, 0);
        for (int i = 0; i < 166; i++) {
            x.years(60);
        }
        CHECK.due("year", 9960, x.look(3));
        CHECK.due("above 9999", -1, x.years(40));
        CHECK.due("year", 9960, x.look(3));
        CHECK.due("up to 9999", 0, x.years(39));
        CHECK.due("year", 9999, x.look(3));
        CHECK.due("one more", -1, x.years(1));
        CHECK.due("goes on in thought", 1, x.goes(1, 0));
    }

    private static void drawsDecide() {
        WornWigs x = new WornWigs();
        x.judge(50, 0);
        x.judge(50, 0);
        x.judge(50, 0);
        Checks.text(x, 0, "dies 564;");
        // From 0 the draws of 1000 are 563 (below 564) and then 577 (not below).
        x.state(0);
        int first = 1013904223;
        int second = first * 1664525 + 1013904223;
        int third = second * 1664525 + 1013904223;
        int died = 0;
        int set = 0;
        int[] states = {first, second, third};
        for (int j = 0; j < 3; j++) {
            boolean dead = (states[j] >>> 8) % 1000 < 564;
            died += dead ? 1 : 0;
            set |= dead ? 1 << j : 0;
        }
        CHECK.due("years(1)", died, x.years(1));
        CHECK.due("dead", set, x.look(4));
        CHECK.due("the first is dead", 1, x.who(0, 3));
        CHECK.due("the second lives", 0, x.who(1, 3));
        CHECK.due("state", third, x.look(7));
        CHECK.due("the dead grow no older", 51, x.who(0, 0));
        x.years(1);
        CHECK.due("the dead grow no older", 51, x.who(0, 0));
        WornWigs y = new WornWigs();
        y.judge(50, 0);
        Checks.text(y, 0, "dies 563;");
        CHECK.due("a draw that is not below", 0, y.years(1));
        Checks.text(y, 0, "dies 1000;");
        CHECK.due("1000 is always above", 1, y.years(1));
    }

    private static void drawsOnlyIfDiesIsAboveNought() {
        WornWigs x = new WornWigs();
        x.judge(59, 0);
        x.judge(119, 0);
        x.years(1);
        CHECK.due("one draw", 1013904223, x.look(7));
        CHECK.due("at 60 nobody draws, at 120 one dies", 2, x.look(4));
        WornWigs y = new WornWigs();
        y.judge(120, 0);
        Checks.text(y, 0, "dies 0 - 5;");
        CHECK.due("at 120 in any case", 1, y.years(1));
        CHECK.due("no draw", 0, y.look(7));
        CHECK.due("age", 120, y.who(0, 0));
        WornWigs z = new WornWigs();
        z.judge(60, 0);
        CHECK.due("dies is asked at 61", 0, z.years(1));
        CHECK.due("a draw", 1013904223, z.look(7));
        Checks.text(z, 0, "dies 1;");
        z.state(0);
        z.years(1);
        CHECK.due("a draw for 1", 1013904223, z.look(7));
    }

    private static void wigPassesOn() {
        WornWigs x = new WornWigs();
        x.wig(0, 90);
        x.judge(119, 0);
        x.judge(40, 0);
        x.judge(30, 0);
        x.judge(20, 0);
        x.wig(0, 90);
        x.act(0, 0, 0);
        x.act(0, 1, 3);
        CHECK.due("died", 1, x.years(1));
        CHECK.due("to the youngest without one", 2, x.of(0, 4));
        CHECK.due("the dead one has none", -1, x.who(0, 2));
        CHECK.due("lent", 2, x.of(0, 3));
        CHECK.due("book has the death", 2, x.book(2, 1));
        CHECK.due("then the wig", 1, x.book(3, 1));
        CHECK.due("on whom", 2, x.book(3, 3));
        WornWigs y = new WornWigs();
        y.wig(0, 90);
        y.judge(119, 0);
        y.act(0, 0, 0);
        y.years(1);
        CHECK.due("else to nobody", -1, y.of(0, 4));
        CHECK.due("the dead one has none", -1, y.who(0, 2));
        CHECK.due("lent", 1, y.of(0, 3));
    }

    private static void wigPassesOnByAgesAsTheyAreNow() {
        WornWigs x = new WornWigs();
        x.wig(0, 90);
        x.judge(30, 0);
        x.judge(119, 0);
        x.judge(30, 0);
        x.act(0, 0, 1);
        x.years(1);
        CHECK.due("who has not had his birthday yet", 2, x.of(0, 4));
        WornWigs y = new WornWigs();
        y.wig(0, 90);
        y.judge(119, 0);
        y.judge(30, 0);
        y.judge(30, 0);
        y.act(0, 0, 0);
        y.years(1);
        CHECK.due("of several the least", 1, y.of(0, 4));
    }

    private static void wigPassesOnTwiceInAYear() {
        WornWigs x = new WornWigs();
        x.wig(0, 90);
        x.judge(119, 0);
        x.judge(119, 0);
        x.act(0, 0, 0);
        CHECK.due("died", 2, x.years(1));
        CHECK.due("lent", 2, x.of(0, 3));
        CHECK.due("nobody", -1, x.of(0, 4));
        CHECK.due("lines", 4, x.look(6));
        int[] due = {1, 2, 1, 2};
        for (int i = 0; i < 4; i++) {
            CHECK.due("book(" + i + ", 1)", due[i], x.book(i, 1));
        }
    }

    private static void mothEats() {
        WornWigs x = new WornWigs();
        x.wig(2, 5);
        x.rule(0, 3, 1, 50);
        x.rule(0, 4, 1, 50);
        x.rule(0, 3, -1, 50);
        CHECK.due("itch", 9, x.of(0, 2));
        x.years(1);
        CHECK.due("hair", 3, x.of(0, 1));
        x.years(1);
        CHECK.due("hair", 1, x.of(0, 1));
        CHECK.due("rules", 3, x.of(0, 5));
        x.years(1);
        CHECK.due("hair", 0, x.of(0, 1));
        CHECK.due("rules", 2, x.of(0, 5));
        CHECK.due("the first went", 4, x.ruleOf(0, 0, 0));
        CHECK.due("itch anew", 0, x.of(0, 2));
        CHECK.due("book: moth", 3, x.book(0, 1));
        CHECK.due("book: wig", 0, x.book(0, 2));
        CHECK.due("book: cause", 3, x.book(0, 3));
        x.years(5);
        CHECK.due("rules", 0, x.of(0, 5));
        CHECK.due("lines", 3, x.look(6));
        WornWigs y = new WornWigs();
        y.wig(2, 0);
        y.wig(1, 50);
        y.rule(0, 3, 1, 50);
        Checks.text(y, 0, "moth 0 when hair = 0; moth 200;");
        y.years(1);
        CHECK.due("without hair a rule goes whatever moth is", 0, y.of(0, 5));
        CHECK.due("hair is 0 at least", 0, y.of(1, 1));
    }

    private static void wornRulesGrowHeavier() {
        WornWigs x = new WornWigs();
        x.wig(0, 90);
        x.wig(0, 90);
        x.judge(1, 0);
        for (int w = 0; w < 2; w++) {
            x.rule(w, 0, 1, 98);
            x.rule(w, 0, 1, 1);
        }
        x.act(0, 1, 0);
        x.years(2);
        CHECK.due("not worn", 98, x.ruleOf(0, 0, 2));
        CHECK.due("not worn", 1, x.ruleOf(0, 1, 2));
        CHECK.due("99 at most", 99, x.ruleOf(1, 0, 2));
        CHECK.due("worn", 3, x.ruleOf(1, 1, 2));
    }

    private static void loansThenDocket() {
        WornWigs x = new WornWigs();
        x.wig(0, 50);
        x.judge(30, 0);
        x.trial(1, 40);
        x.rule(0, 1, 9, 9);
        x.rule(0, 2, 9, 9);
        Checks.text(x, 1, "in 1 case 0 before 0;");
        Checks.text(x, 2, "in 1 wig 0 on 0; in 1 comb 0 2; in 2 off 0; in 2 brush 0 9;");
        x.years(1);
        CHECK.due("not yet", -10000, x.trialOf(0, 2));
        x.years(1);
        CHECK.due("tried under the wig", 49, x.trialOf(0, 2));
        CHECK.due("rules", 2, x.of(0, 5));
        CHECK.due("weight has grown", 10, x.ruleOf(0, 0, 2));
        int[] due = {1, 4, 0};
        for (int i = 0; i < 3; i++) {
            CHECK.due("book(" + i + ", 1)", due[i], x.book(i, 1));
            CHECK.due("book(" + i + ", 0)", 1, x.book(i, 0));
        }
        x.years(1);
        CHECK.due("off", -1, x.of(0, 4));
        CHECK.due("brushed, then moth", 50 - 1 - 1 + 9 - 1, x.of(0, 1));
        CHECK.due("weight", 9, x.ruleOf(0, 0, 2));
    }

    private static void whatCannotBeDoneIsLeft() {
        WornWigs x = new WornWigs();
        x.wig(0, 50);
        x.wig(0, 50);
        x.judge(30, 0);
        x.judge(119, 0);
        x.trial(1, 40);
        x.trial(1, 40);
        Checks.text(x, 1, "in 0 case 0 before 0; in 0 case 0 before 0; in 1 case 1 before 1;");
        Checks.text(x, 2, "in 0 wig 0 on 0; in 0 wig 1 on 0; in 0 off 1; in 0 comb 0 5; in 1 wig 1 on 1;");
        CHECK.due("died", 1, x.years(2));
        CHECK.due("lines", 3, x.look(6));
        CHECK.due("tried once", 1, x.who(0, 4));
        CHECK.due("the dead try nothing", -1, x.trialOf(1, 3));
        CHECK.due("the dead wear nothing", 0, x.of(1, 3));
    }
}
