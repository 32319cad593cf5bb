/** The edges of what is thought of WIGS, JUDGES and CASES, sentence by sentence: promises 20 to 28. */
public final class EdgesThoughtTest {
    private static final Checks CHECK = new Checks();
    private static final int MIN = Integer.MIN_VALUE;
    private static final int MAX = Integer.MAX_VALUE;

    public static void main(String[] args) {
        CHECK.runAll(EdgesThoughtTest.class);
        CHECK.end();
    }

    // Promise 20: "GOES what 0 DEAD, 1 RULES, 2 HAIR, 3 VERDICTS."
    // Promise 20, terms: "GOES for n (1 .. 60) YEARS: how many are DEAD, how many RULES there are in all WIGS, HAIR of
    // all, VERDICTS above 0 then."
    private static void goesOnAFullBench() {
        WornWigs x = Checks.bench(8, 10, 14);
        for (int w = 0; w < 8; w++) {
            for (int i = 0; i < 8; i++) {
                x.rule(w, 7, 1, 50);
            }
            x.set(2, w, 99);
        }
        for (int c = 0; c < 14; c++) {
            x.set(3, c, c < 7 ? 1 : c == 7 ? 0 : -1);
            x.tries(c, 9);
        }
        CHECK.due("dead after one", 0, x.goes(1, 0));
        CHECK.due("rules after one", 64, x.goes(1, 1));
        CHECK.due("hair after one", 8 * 98, x.goes(1, 2));
        CHECK.due("only what is above 0", 7, x.goes(1, 3));
        CHECK.due("hair after sixty", 8 * 39, x.goes(60, 2));
        Checks.text(x, 0, "dies 1000; moth 99;");
        CHECK.due("all are dead after one", 10, x.goes(1, 0));
        CHECK.due("hair", 0, x.goes(1, 2));
        CHECK.due("one rule of each went", 56, x.goes(1, 1));
        CHECK.due("all went after eight", 0, x.goes(8, 1));
        CHECK.due("none is left to go", 0, x.goes(60, 1));
    }

    // Promise 20: "NONE if one can't be, or another what."
    // Promise 20, terms: "GOES for n (1 .. 60) YEARS: how many are DEAD, how many RULES there are in all WIGS, HAIR of
    // all, VERDICTS above 0 then."
    private static void goesForNoYearsOrTooMany() {
        WornWigs x = Checks.bench(1, 1, 1);
        int[] wrong = {0, -1, 61, MIN, MAX};
        for (int n : wrong) {
            CHECK.refused(x, "goes(" + n + ", 2)", -1, () -> x.goes(n, 2));
        }
        int[] others = {-1, 4, MIN, MAX};
        for (int what : others) {
            CHECK.refused(x, "goes(1, " + what + ")", -1, () -> x.goes(1, what));
        }
        CHECK.due("1", 49, x.goes(1, 2));
        CHECK.due("60", 0, x.goes(60, 2));
    }

    // Promise 20, terms: "IN THOUGHT (nothing of it stays; no DRAWS: he dies, if dies is 500 at least)."
    private static void inThoughtHeDiesAt500() {
        WornWigs x = Checks.bench(0, 4, 0);
        int[] dies = {499, 500, 501, 0};
        Checks.text(x, 0, "dies 499 when mind=0;dies 500 when mind=1;dies 501 when mind=2;dies 0;");
        for (int j = 0; j < 4; j++) {
            x.set(1, j, j);
            CHECK.due("dies", dies[j], x.who(j, 5));
        }
        CHECK.due("two died", 2, x.goes(1, 0));
        CHECK.due("and no more", 2, x.goes(60, 0));
        CHECK.due("no draws", 0, x.look(7));
        WornWigs y = Checks.bench(0, 1, 0);
        Checks.text(y, 0, "dies 0;");
        y.set(0, 0, 60);
        CHECK.due("at 119", 0, y.goes(59, 0));
        CHECK.due("at 120 in any case", 1, y.goes(60, 0));
        // 114 to 115: 55 above 60 are 495; 116: 504.
        WornWigs z = Checks.bench(0, 1, 0);
        z.set(0, 0, 114);
        CHECK.due("495", 0, z.goes(1, 0));
        CHECK.due("504", 1, z.goes(2, 0));
    }

    // Promise 20, terms: "IN THOUGHT (nothing of it stays; no DRAWS: he dies, if dies is 500 at least)."
    private static void nothingOfAThoughtStays() {
        WornWigs x = Checks.bench(3, 4, 3);
        x.set(0, 0, 119);
        x.set(0, 1, 118);
        x.set(2, 1, 1);
        for (int w = 0; w < 3; w++) {
            x.rule(w, 0, 5, 98);
            x.rule(w, 0, -5, 1);
        }
        Checks.text(x, 1, "in 0 case 0 before 0;in 1 case 1 before 2;");
        Checks.text(x, 2, "in 0 comb 2 0;in 1 wig 2 on 3;in 1 brush 0 9;in 2 off 2;");
        x.state(77);
        x.act(0, 0, 0);
        x.act(0, 1, 1);
        String before = Checks.seenAll(x);
        for (int what = 0; what < 4; what++) {
            x.goes(60, what);
        }
        x.would(0, 0);
        x.forum(0, 0);
        x.combs(0, 0);
        x.alike(0, 1);
        x.heir(0, 2);
        x.saves(100, 0);
        x.panels(0, 0);
        x.game(0);
        CHECK.due("nothing stays", true, before.equals(Checks.seenAll(x)));
        CHECK.due("and it can be undone", true, x.undo());
        CHECK.due("as ever", -1, x.of(1, 4));
    }

    // Promise 20, terms: "IN THOUGHT (nothing of it stays; no DRAWS: he dies, if dies is 500 at least)."
    private static void behindAThoughtYearsGoAsEver() {
        WornWigs x = Checks.bench(1, 2, 1);
        Checks.text(x, 0, "dies 499;");
        x.goes(60, 0);
        x.act(0, 0, 0);
        CHECK.due("the book has its line", 1, x.look(6));
        // From 0 the draw is 563, from there 577: both live by draws that are no thought.
        CHECK.due("nobody dies", 0, x.years(1));
        CHECK.due("both drew", 1013904223 * 1664525 + 1013904223, x.look(7));
        Checks.text(x, 0, "dies 1000;");
        x.goes(1, 0);
        CHECK.due("both die", 2, x.years(1));
        CHECK.due("the book has their lines and that of the wig", 4, x.look(6));
    }

    // Promise 20, terms: "GOES for n (1 .. 60) YEARS: how many are DEAD, how many RULES there are in all WIGS, HAIR of
    // all, VERDICTS above 0 then."
    private static void goesWithLoansAndDocket() {
        WornWigs x = Checks.bench(1, 2, 2);
        x.set(3, 0, 20);
        x.set(3, 1, -20);
        x.rule(0, 0, 9, 30);
        Checks.text(x, 1, "in 0 case 0 before 0;in 1 case 1 before 0;");
        Checks.text(x, 2, "in 1 wig 0 on 0;in 2 comb 0 0;");
        CHECK.due("verdicts after one", 1, x.goes(1, 3));
        CHECK.due("the second under the wig", 2, x.goes(2, 3));
        CHECK.due("rules after one", 1, x.goes(1, 1));
        CHECK.due("rules after two", 2, x.goes(2, 1));
        CHECK.due("rules after three", 0, x.goes(3, 1));
        WornWigs y = Checks.bench(0, 2, 0);
        Checks.kill(y, 0);
        CHECK.due("who is dead already counts", 1, y.goes(1, 0));
        CHECK.due("of nothing", 0, new WornWigs().goes(60, 3));
    }

    // Promise 20, terms: "GOES for n (1 .. 60) YEARS: how many are DEAD, how many RULES there are in all WIGS, HAIR of
    // all, VERDICTS above 0 then."
    private static void goesBeyondTheBook() {
        WornWigs x = Checks.bench(1, 2, 0);
        x.rule(0, 3, 1, 1);
        x.set(2, 0, 0);
        for (int i = 0; i < 150; i++) {
            x.act(0, 0, i % 2);
        }
        CHECK.due("a full book", 150, x.look(6));
        CHECK.due("moth eats all the same", 0, x.goes(1, 1));
        CHECK.due("the book is as it was", 1, x.book(149, 1));
    }

    // Promise 21: "WOULD; NONE - 9999 if there is none such, or he is DEAD."
    private static void wouldOfNoneSuch() {
        WornWigs x = Checks.bench(1, 3, 2);
        Checks.kill(x, 2);
        int[] noCase = {-1, 2, 14, MIN, MAX};
        for (int c : noCase) {
            CHECK.due("would(" + c + ", 0)", -10000, x.would(c, 0));
        }
        int[] noJudge = {-1, 2, 3, 10, MIN, MAX};
        for (int j : noJudge) {
            CHECK.due("would(0, " + j + ")", -10000, x.would(0, j));
        }
        CHECK.due("the last there are", 0, x.would(1, 1));
    }

    // Promise 21, terms: "WOULD a CASE go before a JUDGE (with a VERDICT already or not): the VERDICT."
    private static void wouldWithAVerdictOrNot() {
        WornWigs x = Checks.bench(1, 10, 14);
        x.set(3, 13, 40);
        x.set(1, 9, -9);
        x.rule(0, 0, -9, 99);
        x.act(0, 0, 9);
        CHECK.due("the last before the last", 40 - 27 - 99, x.would(13, 9));
        CHECK.due("before one without a wig", 40, x.would(13, 0));
        x.tries(13, 0);
        CHECK.due("with a verdict", -86, x.would(13, 9));
        CHECK.due("the verdict stays", 40, x.trialOf(13, 2));
        CHECK.due("tried stays", 0, x.who(9, 4));
        CHECK.due("rules stay", 1, x.of(0, 5));
    }

    // Promise 22: "BEST (what 0), WORST (1)."
    // Promise 22, terms: "BEST, WORST: the JUDGE not DEAD before whom it is greatest, least (of several the least)."
    private static void bestAndWorst() {
        WornWigs x = Checks.bench(0, 10, 1);
        CHECK.due("all alike: the least", 0, x.forum(0, 0));
        CHECK.due("all alike: the least", 0, x.forum(0, 1));
        x.set(1, 9, 1);
        x.set(1, 8, -1);
        CHECK.due("the last is best", 9, x.forum(0, 0));
        CHECK.due("the last but one is worst", 8, x.forum(0, 1));
        x.set(1, 5, 1);
        x.set(1, 4, -1);
        CHECK.due("of several the least", 5, x.forum(0, 0));
        CHECK.due("of several the least", 4, x.forum(0, 1));
        for (int merit = -99; merit <= 99; merit += 198) {
            x.set(3, 0, merit);
            CHECK.due("with merit " + merit, 5, x.forum(0, 0));
            CHECK.due("with merit " + merit, 4, x.forum(0, 1));
        }
        Checks.kill(x, 5);
        Checks.kill(x, 4);
        CHECK.due("of who are not dead", 9, x.forum(0, 0));
        CHECK.due("of who are not dead", 8, x.forum(0, 1));
    }

    // Promise 22: "NONE if all are DEAD, there is none such, or another what."
    private static void forumOfNoneSuch() {
        WornWigs x = Checks.bench(0, 2, 1);
        int[] none = {-1, 1, 14, MIN, MAX};
        for (int c : none) {
            CHECK.due("forum(" + c + ", 0)", -1, x.forum(c, 0));
            CHECK.due("forum(" + c + ", 1)", -1, x.forum(c, 1));
        }
        int[] others = {-1, 2, MIN, MAX};
        for (int what : others) {
            CHECK.due("forum(0, " + what + ")", -1, x.forum(0, what));
        }
        Checks.kill(x, 0);
        CHECK.due("one lives", 1, x.forum(0, 0));
        CHECK.due("one lives", 1, x.forum(0, 1));
        Checks.kill(x, 1);
        CHECK.due("all are dead", -1, x.forum(0, 0));
        CHECK.due("all are dead", -1, x.forum(0, 1));
        WornWigs y = Checks.bench(0, 0, 1);
        CHECK.due("without a judge", -1, y.forum(0, 0));
        CHECK.due("without a judge", -1, y.forum(0, 1));
    }

    private static void dueCombs(String what, int[][] rules, int set) {
        WornWigs x = Checks.bench(8, 0, 0);
        for (int[] r : rules) {
            x.rule(7, r[0], r[1], 5);
        }
        CHECK.due(what + ": the set", set, x.combs(7, 1));
        CHECK.due(what + ": how many", Integer.bitCount(set), x.combs(7, 0));
        CHECK.due("another wig", 0, x.combs(0, 1));
    }

    // Promise 23: "COMBS what 0 how many, 1 the set."
    // Promise 23, terms: "COMBS of a WIG: the fewest RULES to be left out so that no two of one CAUSE have RULINGS of
    // unlike sign: how many; the set (of several the least)."
    private static void fewestToBeCombedOut() {
        dueCombs("without rules", new int[][] {}, 0);
        dueCombs("one rule", new int[][] {{0, -1}}, 0);
        dueCombs("unlike causes", new int[][] {{0, -1}, {1, 1}}, 0);
        dueCombs("0 is of no sign", new int[][] {{0, -1}, {0, 0}, {0, -9}, {0, 0}}, 0);
        dueCombs("0 is of no sign", new int[][] {{0, 1}, {0, 0}}, 0);
        dueCombs("one and one: the least set", new int[][] {{0, -1}, {0, 1}}, 1);
        dueCombs("one and one: the least set", new int[][] {{0, 1}, {0, -1}}, 1);
        dueCombs("the fewer", new int[][] {{0, 1}, {0, 1}, {0, -1}}, 4);
        dueCombs("the fewer", new int[][] {{0, -1}, {0, -1}, {0, 1}}, 4);
        dueCombs("two and two: the least set", new int[][] {{7, 1}, {7, -1}, {7, -1}, {7, 1}}, 2 + 4);
        dueCombs("two and two: the least set", new int[][] {{7, -1}, {7, 1}, {7, 1}, {7, -1}}, 2 + 4);
        dueCombs("four and four", new int[][] {{0, 1}, {0, 1}, {0, 1}, {0, 1}, {0, -1}, {0, -1}, {0, -1}, {0, -1}}, 15);
        dueCombs("four and four", new int[][] {{0, 1}, {0, -1}, {0, -1}, {0, 1}, {0, 1}, {0, -1}, {0, 1}, {0, -1}},
                1 + 8 + 16 + 64);
        dueCombs("seven and one", new int[][] {{0, 1}, {0, 1}, {0, 1}, {0, 1}, {0, 1}, {0, 1}, {0, 1}, {0, -1}}, 128);
        dueCombs("cause by cause", new int[][] {{0, 1}, {1, -1}, {0, -1}, {2, 5}, {1, 1}, {2, -5}, {2, 6}, {0, -9}},
                1 + 2 + 32);
    }

    // Promise 23: "NONE if there is none such, or another what."
    private static void combsOfNoneSuch() {
        WornWigs x = Checks.bench(2, 0, 0);
        int[] none = {-1, 2, 8, MIN, MAX};
        for (int w : none) {
            CHECK.due("combs(" + w + ", 0)", -1, x.combs(w, 0));
            CHECK.due("combs(" + w + ", 1)", -1, x.combs(w, 1));
        }
        int[] others = {-1, 2, MIN, MAX};
        for (int what : others) {
            CHECK.due("combs(0, " + what + ")", -1, x.combs(0, what));
        }
        CHECK.due("the last there is", 0, x.combs(1, 0));
    }

    // Promise 24: "ALIKE;"
    // Promise 24, terms: "ALIKE of two WIGS: over CAUSES how far apart the sums of RULINGS are, added;"
    private static void sumsOfRulingsApart() {
        WornWigs x = Checks.bench(8, 0, 0);
        CHECK.due("two without rules", 0, x.alike(0, 7));
        CHECK.due("one with itself", 0, x.alike(7, 7));
        for (int i = 0; i < 8; i++) {
            x.rule(0, 0, 9, 1);
            x.rule(7, 0, -9, 99);
        }
        CHECK.due("as far as can be", 144, x.alike(0, 7));
        CHECK.due("the other way", 144, x.alike(7, 0));
        x.rule(1, 0, 9, 1);
        x.rule(1, 0, -9, 1);
        CHECK.due("9 and -9 are 0", 0, x.alike(1, 2));
        x.rule(2, 7, 1, 1);
        x.rule(3, 6, 1, 1);
        CHECK.due("unlike causes are added", 2, x.alike(2, 3));
        x.rule(3, 7, -2, 1);
        CHECK.due("1 and -2 are 3 apart", 4, x.alike(2, 3));
    }

    // Promise 24: "NEAREST (b NONE; NONE if there is no other one)."
    // Promise 24, terms: "NEAREST to a WIG: the other one for which that is least (of several the least)."
    private static void nearestOfTheOthers() {
        WornWigs x = Checks.bench(1, 0, 0);
        CHECK.due("there is no other one", -1, x.alike(0, -1));
        x.wig(0, 0);
        CHECK.due("the only other one", 1, x.alike(0, -1));
        CHECK.due("the only other one", 0, x.alike(1, -1));
        for (int i = 2; i < 8; i++) {
            x.wig(0, 0);
        }
        CHECK.due("of several the least", 1, x.alike(0, -1));
        CHECK.due("of several the least", 0, x.alike(7, -1));
        int[] rulings = {0, 9, 5, -5, 4, 6, 8, -9};
        for (int w = 0; w < 8; w++) {
            x.rule(w, 3, rulings[w], 1);
        }
        int[] due = {4, 6, 4, 7, 2, 2, 1, 3};
        for (int w = 0; w < 8; w++) {
            CHECK.due("nearest to " + w, due[w], x.alike(w, -1));
        }
    }

    // Promise 24: "NONE if one can't be."
    private static void alikeOfNoneSuch() {
        WornWigs x = Checks.bench(2, 0, 0);
        int[] none = {2, -2, 8, MIN, MAX};
        for (int w : none) {
            CHECK.due("alike(" + w + ", 0)", -1, x.alike(w, 0));
            CHECK.due("alike(0, " + w + ")", -1, x.alike(0, w));
            CHECK.due("alike(" + w + ", -1)", -1, x.alike(w, -1));
        }
        CHECK.due("alike(-1, -1)", -1, x.alike(-1, -1));
        CHECK.due("alike(-1, 0)", -1, x.alike(-1, 0));
    }

    // Promise 25: "HEIRS;"
    // Promise 25, terms: "HEIRS of n (1 .. 9): JUDGES that would have a WIG in turn, if who wears it died each time at
    // once (nobody else; as by (b)): the n-th one."
    private static void nineHeirs() {
        WornWigs x = Checks.bench(8, 10, 0);
        int[] ages = {50, 20, 50, 70, 10, 0, 120, 20, 119, 60};
        int[] due = {5, 1, 7, 0, 2, 9, 3, 8, 6};
        for (int j = 0; j < 10; j++) {
            x.set(0, j, ages[j]);
        }
        x.act(0, 7, 4);
        for (int n = 1; n <= 9; n++) {
            CHECK.due("heir(7, " + n + ")", due[n - 1], x.heir(7, n));
        }
        CHECK.due("nothing stays", 4, x.of(7, 4));
        CHECK.due("nothing stays", 0, x.look(4));
    }

    // Promise 25, terms: "HEIRS of n (1 .. 9): JUDGES that would have a WIG in turn, if who wears it died each time at
    // once (nobody else; as by (b)): the n-th one."
    private static void onlyWhoLivesAndHasNoneInherits() {
        WornWigs x = Checks.bench(2, 4, 0);
        Checks.kill(x, 1);
        x.set(0, 1, 0);
        x.set(0, 2, 1);
        x.set(0, 3, 99);
        x.act(0, 0, 0);
        x.act(0, 1, 2);
        CHECK.due("1 is dead, 2 has one", 3, x.heir(0, 1));
        CHECK.due("nobody else", -1, x.heir(0, 2));
        CHECK.due("of the other wig", 3, x.heir(1, 1));
    }

    // Promise 25: "NONE if nobody wears it, there are not so many, or one can't be."
    private static void noHeir() {
        WornWigs x = Checks.bench(2, 3, 0);
        CHECK.due("nobody wears it", -1, x.heir(0, 1));
        x.act(0, 1, 0);
        CHECK.due("nobody wears this one", -1, x.heir(0, 1));
        CHECK.due("two heirs", 2, x.heir(1, 2));
        CHECK.due("not three", -1, x.heir(1, 3));
        CHECK.due("not nine", -1, x.heir(1, 9));
        int[] wrong = {0, -1, 10, MIN, MAX};
        for (int n : wrong) {
            CHECK.due("heir(1, " + n + ")", -1, x.heir(1, n));
        }
        int[] none = {-1, 2, 8, MIN, MAX};
        for (int w : none) {
            CHECK.due("heir(" + w + ", 1)", -1, x.heir(w, 1));
        }
        x.act(1, 1, 0);
        CHECK.due("nobody wears it any more", -1, x.heir(1, 1));
        WornWigs y = Checks.bench(1, 1, 0);
        y.act(0, 0, 0);
        CHECK.due("there is nobody else", -1, y.heir(0, 1));
    }

    // Promise 26: "ROOT (b NONE),"
    // Promise 26, terms: "KIN: ROOT of a WIG: back along KIN (or one that was there: that);"
    private static void rootBackAlongKin() {
        WornWigs x = Checks.bench(8, 0, 0);
        CHECK.due("of nothing", 7, x.kin(7, -1));
        Checks.text(x, 3, "wig 6 of 7;wig 5 of 6;wig 4 of 5;wig 3 of 4;wig 2 of 3;wig 1 of 2;wig 0 of 1;");
        for (int w = 0; w < 8; w++) {
            CHECK.due("root of " + w, 7, x.kin(w, -1));
        }
    }

    // Promise 26, terms: "KIN: ROOT of a WIG: back along KIN (or one that was there: that);"
    private static void rootWhereTheyGoRound() {
        WornWigs x = Checks.bench(8, 0, 0);
        Checks.text(x, 3, "wig 0 of 1;wig 1 of 0;wig 2 of 0;wig 3 of 2;wig 4 of 1;");
        int[] due = {0, 1, 0, 0, 1, 5, 6, 7};
        for (int w = 0; w < 8; w++) {
            CHECK.due("root of " + w, due[w], x.kin(w, -1));
        }
        Checks.text(x, 3, "wig 0 of 1;wig 1 of 2;wig 2 of 3;wig 3 of 4;wig 4 of 5;wig 5 of 6;wig 6 of 7;wig 7 of 0;");
        for (int w = 0; w < 8; w++) {
            CHECK.due("all go round: the one itself", w, x.kin(w, -1));
        }
        Checks.text(x, 3, "wig 0 of 1;wig 1 of 2;wig 2 of 3;wig 3 of 4;wig 4 of 5;wig 5 of 6;wig 6 of 7;wig 7 of 6;");
        CHECK.due("the first that was there", 6, x.kin(0, -1));
        CHECK.due("the first that was there", 7, x.kin(7, -1));
    }

    // Promise 26: "COMMON."
    // Promise 26, terms: "COMMON of two: the first one back from the first of them (itself too) that is one back from
    // the other one, too."
    private static void commonOfTwo() {
        WornWigs x = Checks.bench(8, 0, 0);
        Checks.text(x, 3, "wig 0 of 2;wig 1 of 2;wig 2 of 3;wig 4 of 3;wig 5 of 6;wig 6 of 5;wig 7 of 6;");
        int[][] due = {{0, 1, 2}, {1, 0, 2}, {0, 4, 3}, {4, 0, 3}, {0, 2, 2}, {2, 0, 2}, {0, 3, 3}, {3, 0, 3},
            {0, 0, 0}, {3, 3, 3}, {5, 6, 5}, {6, 5, 6}, {7, 5, 6}, {5, 7, 5}, {7, 7, 7}};
        for (int[] d : due) {
            CHECK.due("kin(" + d[0] + ", " + d[1] + ")", d[2], x.kin(d[0], d[1]));
        }
        Checks.text(x, 3, "wig 0 of 1;wig 1 of 2;wig 2 of 3;wig 3 of 4;wig 4 of 5;wig 5 of 6;wig 6 of 7;");
        CHECK.due("all the way back", 7, x.kin(0, 7));
        CHECK.due("all the way back", 7, x.kin(7, 0));
    }

    // Promise 26: "NONE if there is none (COMMON), or one can't be."
    private static void noCommonOrNoneSuch() {
        WornWigs x = Checks.bench(4, 0, 0);
        CHECK.due("without kin", -1, x.kin(0, 1));
        Checks.text(x, 3, "wig 0 of 1;wig 1 of 0;wig 2 of 3;wig 3 of 2;");
        CHECK.due("two rounds apart", -1, x.kin(0, 2));
        CHECK.due("two rounds apart", -1, x.kin(3, 1));
        int[] none = {4, -2, 8, MIN, MAX};
        for (int w : none) {
            CHECK.due("kin(" + w + ", -1)", -1, x.kin(w, -1));
            CHECK.due("kin(" + w + ", 0)", -1, x.kin(w, 0));
            CHECK.due("kin(0, " + w + ")", -1, x.kin(0, w));
        }
        CHECK.due("kin(-1, -1)", -1, x.kin(-1, -1));
        CHECK.due("kin(-1, 0)", -1, x.kin(-1, 0));
    }

    private static void dueSaves(WornWigs x, int w, int worth, int set) {
        CHECK.due("saves(" + w + ", 0)", worth, x.saves(w, 0));
        CHECK.due("saves(" + w + ", 1)", set, x.saves(w, 1));
    }

    // Promise 27: "SAVES what 0 that, 1 the set."
    // Promise 27, terms: "SAVES of w (1 .. 400): WIGS with HAIR of w together at most, with most RULES and 3 for each of
    // COLOUR 1 in all: that; the set (of several the least)."
    private static void savesAsMuchAsCanBe() {
        WornWigs x = new WornWigs();
        dueSaves(x, 1, 0, 0);
        for (int i = 0; i < 8; i++) {
            x.wig(1, 50);
        }
        dueSaves(x, 49, 0, 0);
        dueSaves(x, 50, 3, 1);
        dueSaves(x, 99, 3, 1);
        dueSaves(x, 100, 6, 3);
        dueSaves(x, 399, 21, 127);
        dueSaves(x, 400, 24, 255);
        x.set(2, 0, 51);
        dueSaves(x, 400, 21, 127);
        for (int i = 0; i < 8; i++) {
            x.rule(7, 0, 1, 1);
        }
        dueSaves(x, 400, 29, 255 - 64);
        dueSaves(x, 50, 11, 128);
    }

    // Promise 27, terms: "SAVES of w (1 .. 400): WIGS with HAIR of w together at most, with most RULES and 3 for each of
    // COLOUR 1 in all: that; the set (of several the least)."
    private static void leastOfSeveralSets() {
        WornWigs x = new WornWigs();
        x.wig(0, 1);
        x.wig(2, 1);
        x.wig(1, 2);
        x.wig(0, 0);
        dueSaves(x, 1, 0, 0);
        dueSaves(x, 2, 3, 4);
        for (int i = 0; i < 3; i++) {
            x.rule(1, 0, 0, 1);
        }
        dueSaves(x, 1, 3, 2);
        dueSaves(x, 2, 3, 2);
        dueSaves(x, 3, 6, 6);
        x.rule(3, 0, 0, 1);
        dueSaves(x, 1, 4, 2 + 8);
        dueSaves(x, 400, 7, 2 + 4 + 8);
    }

    // Promise 27: "NONE if w can't be, or another what."
    private static void savesOfWhatCannotBe() {
        WornWigs x = Checks.bench(1, 0, 0);
        x.rule(0, 0, 0, 1);
        int[] wrong = {0, -1, 401, MIN, MAX};
        for (int w : wrong) {
            CHECK.due("saves(" + w + ", 0)", -1, x.saves(w, 0));
            CHECK.due("saves(" + w + ", 1)", -1, x.saves(w, 1));
        }
        int[] others = {-1, 2, MIN, MAX};
        for (int what : others) {
            CHECK.due("saves(400, " + what + ")", -1, x.saves(400, what));
        }
        CHECK.due("saves(400, 0)", 1, x.saves(400, 0));
        CHECK.due("saves(1, 0)", 0, x.saves(1, 0));
    }

    /** A bench whose CASE finds above 0 before the first so many JUDGES, and not before the others. */
    private static WornWigs panelBench(int above, int others) {
        WornWigs x = Checks.bench(0, above + others, 14);
        for (int j = 0; j < above; j++) {
            x.set(1, j, 1);
        }
        return x;
    }

    // Promise 28: "PANELS what 0 how many, 10 + j TURNS of JUDGE j (DEAD: 0)."
    // Promise 28, terms: "PANELS of a CASE: sets of three JUDGES not DEAD: how many would find more than half above 0;"
    private static void panelsOfThree() {
        int[][] due = {{0, 0, 0}, {1, 0, 0}, {2, 0, 0}, {3, 0, 1}, {2, 1, 1}, {1, 2, 0}, {0, 3, 0}, {10, 0, 120},
            {0, 10, 0}, {9, 1, 84 + 36}, {1, 9, 0}, {2, 8, 8}, {5, 5, 10 + 50}};
        for (int[] d : due) {
            WornWigs x = panelBench(d[0], d[1]);
            CHECK.due(d[0] + " above 0, " + d[1] + " not", d[2], x.panels(13, 0));
        }
        WornWigs y = panelBench(3, 1);
        y.set(3, 0, -3);
        CHECK.due("0 is not above 0", 0, y.panels(0, 0));
        y.set(3, 0, -2);
        CHECK.due("1 is", 1 + 3, y.panels(0, 0));
        Checks.kill(y, 3);
        CHECK.due("who is dead sits in none", 1, y.panels(0, 0));
        Checks.kill(y, 2);
        CHECK.due("two make no panel", 0, y.panels(0, 0));
    }

    // Promise 28, terms: "TURNS of a JUDGE: in how many with him it would be otherwise, were his finding the other one
    // (above 0 or not)."
    private static void turnsOfAJudge() {
        int[][] due = {{3, 0, 0, 0}, {2, 1, 1, 0}, {1, 2, 0, 1}, {5, 5, 4 * 5, 5 * 4}, {9, 1, 8, 0}, {1, 9, 0, 8},
            {1, 1, 0, 0}, {2, 2, 2, 2}};
        for (int[] d : due) {
            WornWigs x = panelBench(d[0], d[1]);
            CHECK.due("turns of one above 0 of " + d[0] + " and " + d[1], d[2], x.panels(13, 10));
            int last = d[0] + d[1] - 1;
            CHECK.due("turns of the last of " + d[0] + " and " + d[1], d[1] == 0 ? d[2] : d[3], x.panels(13, 10 + last));
        }
    }

    // Promise 28: "PANELS what 0 how many, 10 + j TURNS of JUDGE j (DEAD: 0)."
    private static void turnsOfTheDead() {
        WornWigs x = panelBench(2, 2);
        CHECK.due("alive", 2, x.panels(0, 13));
        Checks.kill(x, 3);
        CHECK.due("dead", 0, x.panels(0, 13));
        CHECK.due("of one who lives", 1, x.panels(0, 10));
    }

    // Promise 28: "NONE if there is none such, or another what."
    private static void panelsOfNoneSuch() {
        WornWigs x = Checks.bench(0, 3, 2);
        int[] none = {-1, 2, 14, MIN, MAX};
        for (int c : none) {
            CHECK.due("panels(" + c + ", 0)", -1, x.panels(c, 0));
            CHECK.due("panels(" + c + ", 10)", -1, x.panels(c, 10));
        }
        int[] others = {-1, 1, 9, 13, 19, 20, MIN, MAX};
        for (int what : others) {
            CHECK.due("panels(0, " + what + ")", -1, x.panels(0, what));
        }
        CHECK.due("the last there are", 0, x.panels(1, 12));
    }
}
