/** Promises 20 to 37: what is thought. */
public final class ThoughtTest {
    private static final Checks CHECK = new Checks();
    private static final int[] FAR = {Integer.MIN_VALUE, -2, 99, Integer.MAX_VALUE};

    public static void main(String[] args) {
        goesOnInThought();
        goesAndNothingStays();
        wouldGo();
        forumOfACase();
        combsOfAWig();
        alikeWigs();
        heirs();
        kin();
        savesFromAFire();
        panels();
        traits();
        whose();
        cites();
        chains();
        estate();
        hears();
        game();
        CHECK.end();
    }

    private static void goesOnInThought() {
        WornWigs x = new WornWigs();
        x.wig(0, 10);
        x.wig(1, 3);
        x.judge(100, 2);
        x.judge(20, 0);
        x.trial(0, 20);
        x.trial(1, 0);
        x.trial(0, -90);
        x.rule(1, 0, 1, 1);
        x.act(0, 0, 0);
        Checks.text(x, 1, "in 0 case 0 before 0; in 1 case 1 before 0; in 2 case 2 before 0; in 99 case 1 before 0;");
        Checks.text(x, 2, "in 2 brush 1 50;");
        // 100 + 15 years: 55 above 60 times 9 is 495, a year on 504.
        CHECK.due("dead after 15", 0, x.goes(15, 0));
        CHECK.due("dead after 16", 1, x.goes(16, 0));
        CHECK.due("dead after 60", 1, x.goes(60, 0));
        CHECK.due("rules after 1", 2, x.goes(1, 1));
        CHECK.due("rules after 3", 4, x.goes(3, 1));
        CHECK.due("hair after 1", 11, x.goes(1, 2));
        CHECK.due("hair after 2: 8 and 1", 9, x.goes(2, 2));
        // from the third year on two rules of the first wig itch
        CHECK.due("hair after 4: 8 - 2 - 2 and 51 - 2", 53, x.goes(4, 2));
        CHECK.due("verdicts after 1", 1, x.goes(1, 3));
        CHECK.due("verdicts after 3", 2, x.goes(3, 3));
        int[] wrong = {0, -1, 61, Integer.MIN_VALUE, Integer.MAX_VALUE};
        for (int n : wrong) {
            CHECK.due("goes(" + n + ", 0)", -1, x.goes(n, 0));
        }
        CHECK.due("goes(1, 4)", -1, x.goes(1, 4));
        CHECK.due("goes(1, -1)", -1, x.goes(1, -1));
        Checks.text(x, 0, "dies 500 when mind=2; dies 499;");
        CHECK.due("500 dies", 1, x.goes(1, 0));
        WornWigs z = new WornWigs();
        z.judge(30, 0);
        z.trial(0, 0);
        z.trial(0, 1);
        z.trial(0, -1);
        z.tries(0, 0);
        z.tries(1, 0);
        z.tries(2, 0);
        CHECK.due("only what is above 0", 1, z.goes(1, 3));
        WornWigs y = new WornWigs();
        y.judge(60, 0);
        Checks.text(y, 0, "dies 0;");
        CHECK.due("dead at 119", 0, y.goes(59, 0));
        CHECK.due("dead at 120", 1, y.goes(60, 0));
        y.judge(119, 0);
        y.years(1);
        CHECK.due("who is dead counts", 1, y.goes(1, 0));
    }

    private static void goesAndNothingStays() {
        WornWigs x = new WornWigs();
        x.wig(0, 2);
        x.judge(119, 1);
        x.judge(30, 1);
        x.trial(0, 1);
        x.rule(0, 0, 3, 3);
        x.state(7);
        Checks.text(x, 1, "in 0 case 0 before 1;");
        x.act(0, 0, 0);
        x.goes(60, 0);
        int[] due = {1, 2, 1, 0, 0, 1, 1, 7, 0, 1, 0, 0, 1};
        for (int what = 0; what < due.length; what++) {
            CHECK.due("look(" + what + ")", due[what], x.look(what));
        }
        CHECK.due("hair", 2, x.of(0, 1));
        CHECK.due("rules", 1, x.of(0, 5));
        CHECK.due("worn by", 0, x.of(0, 4));
        CHECK.due("age", 119, x.who(0, 0));
        CHECK.due("what can be undone", true, x.undo());
        CHECK.due("back", -1, x.of(0, 4));
        x.years(1);
        CHECK.due("draws and the book go on as ever", 2, x.look(6));
    }

    private static void wouldGo() {
        WornWigs x = new WornWigs();
        x.wig(0, 2);
        x.judge(30, -2);
        x.judge(119, 5);
        x.trial(4, 7);
        x.rule(0, 4, -7, 4);
        x.rule(0, 5, 9, 99);
        CHECK.due("bare", 1, x.would(0, 0));
        x.act(0, 0, 0);
        CHECK.due("with the wig", 7 - 6 - 4, x.would(0, 0));
        CHECK.due("the other", 22, x.would(0, 1));
        CHECK.due("nothing stays", 2, x.of(0, 5));
        CHECK.due("nothing stays", -10000, x.trialOf(0, 2));
        CHECK.due("tried", 22, x.tries(0, 1));
        CHECK.due("with a verdict already", -3, x.would(0, 0));
        x.years(1);
        CHECK.due("dead", -10000, x.would(0, 1));
        for (int f : FAR) {
            CHECK.due("no such case", -10000, x.would(f, 0));
            CHECK.due("no such judge", -10000, x.would(0, f));
        }
        CHECK.due("no such case", -10000, x.would(1, 0));
        CHECK.due("no such judge", -10000, x.would(0, 2));
    }

    private static void forumOfACase() {
        WornWigs x = new WornWigs();
        x.trial(0, 0);
        CHECK.due("no judge", -1, x.forum(0, 0));
        int[] minds = {0, -3, 5, -3, 5};
        for (int mind : minds) {
            x.judge(30, mind);
        }
        CHECK.due("best", 2, x.forum(0, 0));
        CHECK.due("worst", 1, x.forum(0, 1));
        x.set(0, 2, 119);
        x.set(0, 1, 119);
        x.years(1);
        CHECK.due("best who lives", 4, x.forum(0, 0));
        CHECK.due("worst who lives", 3, x.forum(0, 1));
        CHECK.due("no such case", -1, x.forum(1, 0));
        CHECK.due("no such case", -1, x.forum(-1, 0));
        CHECK.due("another what", -1, x.forum(0, 2));
        CHECK.due("another what", -1, x.forum(0, -1));
        for (int j = 0; j < 5; j++) {
            x.set(0, j, 119);
        }
        x.years(1);
        WornWigs y = new WornWigs();
        y.trial(0, -50);
        y.trial(0, 50);
        y.judge(30, 1);
        y.judge(30, 0);
        CHECK.due("best below 0", 0, y.forum(0, 0));
        CHECK.due("worst below 0", 1, y.forum(0, 1));
        CHECK.due("best above 0", 0, y.forum(1, 0));
        CHECK.due("worst above 0", 1, y.forum(1, 1));
        CHECK.due("all dead", -1, x.forum(0, 0));
        CHECK.due("all dead", -1, x.forum(0, 1));
    }

    private static void combsOfAWig() {
        WornWigs x = new WornWigs();
        x.wig(0, 9);
        CHECK.due("nothing", 0, x.combs(0, 0));
        CHECK.due("nothing", 0, x.combs(0, 1));
        int[][] rules = {{0, 1}, {0, -1}, {0, 0}, {1, -2}, {1, 3}, {1, 4}, {2, 5}};
        int[] sets = {0, 1, 1, 1, 1 + 8, 1 + 8, 1 + 8};
        for (int i = 0; i < rules.length; i++) {
            x.rule(0, rules[i][0], rules[i][1], 5);
            CHECK.due("set with " + (i + 1), sets[i], x.combs(0, 1));
            CHECK.due("how many with " + (i + 1), Integer.bitCount(sets[i]), x.combs(0, 0));
        }
        x.rule(0, 0, 1, 5);
        CHECK.due("the fewer go", 2 + 8, x.combs(0, 1));
        CHECK.due("nothing was combed", 8, x.of(0, 5));
        for (int f : FAR) {
            CHECK.due("no such wig", -1, x.combs(f, 0));
            CHECK.due("another what", -1, x.combs(0, f));
        }
        CHECK.due("no such wig", -1, x.combs(1, 0));
        CHECK.due("another what", -1, x.combs(0, 2));
    }

    private static void alikeWigs() {
        WornWigs x = new WornWigs();
        x.wig(0, 9);
        CHECK.due("no other", -1, x.alike(0, -1));
        CHECK.due("itself", 0, x.alike(0, 0));
        x.wig(0, 9);
        x.wig(0, 9);
        x.wig(0, 9);
        x.rule(0, 0, 5, 1);
        x.rule(0, 0, -2, 1);
        x.rule(0, 7, 4, 1);
        x.rule(1, 0, -3, 1);
        x.rule(2, 7, 9, 1);
        x.rule(3, 0, 8, 1);
        x.rule(3, 7, 1, 1);
        CHECK.due("0 and 1", 6 + 4, x.alike(0, 1));
        CHECK.due("1 and 0", 10, x.alike(1, 0));
        CHECK.due("0 and 2", 3 + 5, x.alike(0, 2));
        CHECK.due("0 and 3", 5 + 3, x.alike(0, 3));
        CHECK.due("nearest, the least of several", 2, x.alike(0, -1));
        CHECK.due("nearest of 3", 0, x.alike(3, -1));
        for (int f : FAR) {
            CHECK.due("no such wig", -1, x.alike(f, 0));
            CHECK.due("no such wig", -1, x.alike(0, f));
        }
        CHECK.due("no such wig", -1, x.alike(-1, -1));
        CHECK.due("no such wig", -1, x.alike(0, 4));
    }

    private static void heirs() {
        WornWigs x = new WornWigs();
        x.wig(0, 9);
        x.wig(0, 9);
        int[] ages = {50, 40, 119, 40, 30, 70, 20};
        for (int age : ages) {
            x.judge(age, 0);
        }
        CHECK.due("nobody wears it", -1, x.heir(0, 1));
        Checks.text(x, 0, "dies 0;");
        x.years(1);
        x.act(0, 0, 4);
        x.act(0, 1, 6);
        int[] due = {1, 3, 0, 5, -1, -1, -1, -1, -1};
        for (int n = 1; n <= 9; n++) {
            CHECK.due("heir(0, " + n + ")", due[n - 1], x.heir(0, n));
        }
        CHECK.due("nothing stays", 4, x.of(0, 4));
        CHECK.due("n 0", -1, x.heir(0, 0));
        CHECK.due("n 10", -1, x.heir(0, 10));
        for (int f : FAR) {
            CHECK.due("no such wig", -1, x.heir(f, 1));
            CHECK.due("no such n", -1, x.heir(0, f));
        }
        CHECK.due("no such wig", -1, x.heir(2, 1));
        WornWigs y = new WornWigs();
        y.wig(0, 9);
        for (int j = 0; j < 10; j++) {
            y.judge(50 - j, 0);
        }
        y.act(0, 0, 5);
        CHECK.due("the first of nine", 9, y.heir(0, 1));
        CHECK.due("the last of nine", 0, y.heir(0, 9));
    }

    private static void kin() {
        WornWigs x = new WornWigs();
        for (int i = 0; i < 8; i++) {
            x.wig(0, 9);
        }
        CHECK.due("root without kin", 3, x.kin(3, -1));
        CHECK.due("common without kin", -1, x.kin(3, 4));
        CHECK.due("common with itself", 3, x.kin(3, 3));
        Checks.text(x, 3, "wig 3 of 2; wig 2 of 1; wig 4 of 1; wig 3 of 7; wig 1 of 0; wig 5 of 6; wig 6 of 5; wig 7 of 6;");
        int[] roots = {0, 0, 0, 0, 0, 5, 6, 6};
        for (int w = 0; w < 8; w++) {
            CHECK.due("root of " + w, roots[w], x.kin(w, -1));
        }
        CHECK.due("common of 3 and 4", 1, x.kin(3, 4));
        CHECK.due("common of 4 and 3", 1, x.kin(4, 3));
        CHECK.due("common of 3 and 2", 2, x.kin(3, 2));
        CHECK.due("common of 0 and 3", 0, x.kin(0, 3));
        CHECK.due("common of 5 and 6", 5, x.kin(5, 6));
        CHECK.due("common of 7 and 5", 6, x.kin(7, 5));
        CHECK.due("common of 5 and 7", 5, x.kin(5, 7));
        CHECK.due("common of 3 and 7", -1, x.kin(3, 7));
        for (int f : FAR) {
            CHECK.due("no such wig", -1, x.kin(f, -1));
            CHECK.due("no such wig", -1, x.kin(f, 1));
            CHECK.due("no such wig", -1, x.kin(1, f));
        }
        CHECK.due("no such wig", -1, x.kin(-1, -1));
        CHECK.due("no such wig", -1, x.kin(0, 8));
        Checks.text(x, 3, "wig 0 of 1;wig 1 of 2;wig 2 of 3;wig 3 of 4;wig 4 of 5;wig 5 of 6;wig 6 of 7;");
        CHECK.due("all the way", 7, x.kin(0, -1));
        CHECK.due("all the way", 7, x.kin(0, 7));
        CHECK.due("all the way", 7, x.kin(7, 0));
        Checks.text(x, 3, "wig 1 of 0; wig 0 of 2;");
        CHECK.due("past the first", 2, x.kin(1, -1));
    }

    private static void savesFromAFire() {
        WornWigs x = new WornWigs();
        int[][] wigs = {{0, 10, 2}, {1, 20, 0}, {0, 10, 2}, {2, 0, 0}, {0, 99, 8}};
        for (int i = 0; i < wigs.length; i++) {
            x.wig(wigs[i][0], wigs[i][1]);
            for (int r = 0; r < wigs[i][2]; r++) {
                x.rule(i, r, 1, 1);
            }
        }
        int[][] due = {{1, 0, 0}, {9, 0, 0}, {10, 2, 1}, {19, 2, 1}, {20, 4, 5}, {30, 5, 3}, {40, 7, 7}, {99, 8, 16}, {400, 15, 23}};
        for (int[] d : due) {
            CHECK.due("saves(" + d[0] + ", 0)", d[1], x.saves(d[0], 0));
            CHECK.due("saves(" + d[0] + ", 1)", d[2], x.saves(d[0], 1));
        }
        x.rule(3, 0, 0, 1);
        CHECK.due("one rule, no hair", 1, x.saves(1, 0));
        CHECK.due("one rule, no hair", 8, x.saves(1, 1));
        CHECK.due("saves(0, 0)", -1, x.saves(0, 0));
        CHECK.due("saves(401, 0)", -1, x.saves(401, 0));
        CHECK.due("another what", -1, x.saves(1, 2));
        CHECK.due("another what", -1, x.saves(1, -1));
    }

    private static void panels() {
        WornWigs x = new WornWigs();
        x.trial(0, 0);
        CHECK.due("no judge", 0, x.panels(0, 0));
        int[] minds = {1, -1, 2, 0, 3, 4};
        for (int mind : minds) {
            x.judge(30, mind);
        }
        // yes 0 2 4 5, no 1 3: 4 of three yes, 6 * 2 of two
        CHECK.due("how many", 16, x.panels(0, 0));
        CHECK.due("turns of one who finds above", 3 * 2, x.panels(0, 10));
        CHECK.due("turns of one who does not", 4 * 1, x.panels(0, 11));
        x.set(0, 5, 119);
        x.years(1);
        CHECK.due("how many of who live", 1 + 3 * 2, x.panels(0, 0));
        CHECK.due("turns of the dead", 0, x.panels(0, 15));
        CHECK.due("turns", 2 * 2, x.panels(0, 10));
        CHECK.due("no such judge", -1, x.panels(0, 16));
        CHECK.due("another what", -1, x.panels(0, 1));
        CHECK.due("another what", -1, x.panels(0, 9));
        for (int f : FAR) {
            CHECK.due("no such case", -1, x.panels(f, 0));
            CHECK.due("another what", -1, x.panels(0, f));
        }
        CHECK.due("no such case", -1, x.panels(1, 0));
        WornWigs y = new WornWigs();
        y.trial(0, 1);
        y.trial(0, 0);
        for (int i = 0; i < 3; i++) {
            y.judge(30, 0);
        }
        CHECK.due("1 is above 0", 1, y.panels(0, 0));
        CHECK.due("0 is not", 0, y.panels(1, 0));
    }

    private static void traits() {
        WornWigs x = new WornWigs();
        int[] most = {2, 99, 7, 99};
        for (int what = 0; what < 4; what++) {
            CHECK.due("below", -1, x.trait(what, -1, true));
            CHECK.due("above", -1, x.trait(what, most[what] + 1, true));
            CHECK.due("least", 2 * what + 1, x.trait(what, 0, false));
            CHECK.due("most", 2 * what + 2, x.trait(what, most[what], true));
        }
        CHECK.due("a ninth", -1, x.trait(0, 0, true));
        CHECK.due("none are then", 0, x.trait(-1, 77, false));
        CHECK.due("another what", -1, x.trait(4, 0, true));
        CHECK.due("another what", -1, x.trait(-2, 0, true));
        CHECK.due("one", 1, x.trait(0, 0, true));
    }

    private static void whose() {
        WornWigs x = new WornWigs();
        CHECK.due("no wigs", 0, x.whose(0));
        CHECK.due("no wigs", -1, x.whose(1));
        for (int i = 0; i < 6; i++) {
            x.wig(i % 3, 10 * i);
        }
        x.judge(1, 1);
        x.act(0, 2, 0);
        for (int i = 0; i < 6; i++) {
            x.rule(i, 7, 1, 1);
            if (i < 4) {
                x.rule(i, 5, 1, 1);
            }
            if (i % 2 == 0) {
                x.rule(i, 6, 0, 1);
            }
        }
        CHECK.due("all", 63, x.whose(0));
        CHECK.due("three and three", 6, x.whose(1));
        x.trait(0, 1, false);
        CHECK.due("not of colour 1", 63 - 2 - 16, x.whose(0));
        CHECK.due("two and two", 6, x.whose(1));
        x.trait(1, 20, true);
        CHECK.due("hair 20 at least", 4 + 8 + 32, x.whose(0));
        CHECK.due("two and one, the least cause", 5, x.whose(1));
        x.trait(2, 5, true);
        CHECK.due("rule for 5", 4 + 8, x.whose(0));
        x.trait(3, 1, true);
        CHECK.due("lent", 4, x.whose(0));
        CHECK.due("fewer than two", -1, x.whose(1));
        x.trait(3, 1, false);
        CHECK.due("none", 0, x.whose(0));
        x.trait(-1, 0, true);
        x.trait(1, 21, false);
        CHECK.due("hair not 21 at least", 7, x.whose(0));
        CHECK.due("another what", -1, x.whose(2));
        CHECK.due("another what", -1, x.whose(-1));
        WornWigs y = new WornWigs();
        y.wig(0, 1);
        y.wig(0, 1);
        CHECK.due("all alike, the least cause", 0, y.whose(1));
    }

    private static void cites() {
        WornWigs x = new WornWigs();
        int[][] wrong = {{0, 0}, {14, 0}, {0, 14}, {0, -1}, {-2, 0}, {Integer.MAX_VALUE, 0}};
        for (int[] c : wrong) {
            CHECK.due("cite(" + c[0] + ", " + c[1] + ")", -1, x.cite(c[0], c[1]));
        }
        for (int i = 1; i <= 16; i++) {
            CHECK.due("cite " + i, i, x.cite(13, i % 2));
        }
        CHECK.due("a seventeenth", -1, x.cite(1, 2));
        CHECK.due("nothing is then", 0, x.cite(-1, 99));
        CHECK.due("chain", 0, x.chain(0));
        CHECK.due("one", 1, x.cite(1, 2));
    }

    private static void chains() {
        WornWigs x = new WornWigs();
        CHECK.due("without cites", 0, x.chain(0));
        CHECK.due("without cites", -1, x.chain(1));
        x.cite(12, 3);
        CHECK.due("two", 2, x.chain(0));
        CHECK.due("first", 12, x.chain(1));
        x.cite(5, 2);
        CHECK.due("the least first", 5, x.chain(1));
        x.cite(3, 13);
        CHECK.due("three", 3, x.chain(0));
        CHECK.due("first", 12, x.chain(1));
        x.cite(13, 12);
        CHECK.due("they go round", -1, x.chain(0));
        CHECK.due("they go round", -1, x.chain(1));
        x.cite(-1, 0);
        x.cite(1, 0);
        CHECK.due("first", 1, x.chain(1));
        CHECK.due("another what", -1, x.chain(2));
        CHECK.due("another what", -1, x.chain(-1));
        x.cite(-1, 0);
        for (int i = 13; i > 0; i--) {
            x.cite(i - 1, i);
        }
        CHECK.due("all fourteen", 14, x.chain(0));
        CHECK.due("first", 0, x.chain(1));
        x.cite(-1, 0);
        for (int i = 0; i < 13; i++) {
            x.cite(i + 1, i);
        }
        CHECK.due("all fourteen", 14, x.chain(0));
        CHECK.due("first", 13, x.chain(1));
        x.cite(0, 13);
        CHECK.due("all go round", -1, x.chain(0));
        CHECK.due("another what", -1, x.chain(2));
        CHECK.due("another what", -1, x.chain(-1));
    }

    private static void estate() {
        WornWigs x = new WornWigs();
        int[][] wrong = {{-1, 0, 0}, {10, 0, 0}, {0, -1, 0}, {0, 2, 0}, {0, 0, -1}, {0, 0, 100}};
        for (int[] p : wrong) {
            CHECK.due("a wrong parcel", false, x.parcel(p[0], p[1], p[2]));
        }
        CHECK.due("cut of nothing", 1, x.cut(0));
        int[] one = {0, 10, 0, 20, 0, 0, 30, 0, 0, 0};
        int[] other = {9, 9, 0, 0, 0, 0, 0, 0, 9, 9};
        for (int k = 0; k < 10; k++) {
            CHECK.due("parcel", true, x.parcel(k, 0, one[k]));
            CHECK.due("parcel", true, x.parcel(k, 1, other[k]));
        }
        CHECK.due("the first place of several", 4, x.cut(0));
        CHECK.due("alike: the first part is the other's", 18, x.cut(1));
        CHECK.due("so the one has the second", 30, x.cut(2));
        x.parcel(0, 0, 7);
        x.parcel(9, 1, 10);
        CHECK.due("place", 4, x.cut(0));
        CHECK.due("the other has the second", 19, x.cut(1));
        CHECK.due("the one has the first", 37, x.cut(2));
        x.parcel(9, 0, 99);
        CHECK.due("the first of the last three", 7, x.cut(0));
        CHECK.due("the other has the second", 19, x.cut(1));
        CHECK.due("the one has the first", 67, x.cut(2));
        x.parcel(8, 0, 1);
        CHECK.due("the last place", 9, x.cut(0));
        CHECK.due("the other has the first", 27, x.cut(1));
        CHECK.due("the one has the second", 99, x.cut(2));
        CHECK.due("another what", -1, x.cut(3));
        CHECK.due("another what", -1, x.cut(-1));
        WornWigs y = new WornWigs();
        y.parcel(0, 0, 7);
        y.parcel(1, 0, 9);
        y.parcel(0, 1, 3);
        y.parcel(9, 1, 3);
        CHECK.due("behind the first", 1, y.cut(0));
        CHECK.due("alike: the first", 3, y.cut(1));
        CHECK.due("so the one has the second", 9, y.cut(2));
        y.parcel(2, 0, 6);
        // 7 and 15, or 16 and 6
        CHECK.due("the first counts", 1, y.cut(0));
        y.parcel(2, 0, 8);
        CHECK.due("7 and 17, or 16 and 8", 2, y.cut(0));
    }

    private static void hears() {
        WornWigs x = new WornWigs();
        int[][] wrong = {{0, 0}, {25, 0}, {1, -1}, {1, 100}, {-2, 0}};
        for (int[] h : wrong) {
            CHECK.due("a wrong hard case", -1, x.hard(h[0], h[1]));
        }
        CHECK.due("none", 0, x.hears(0));
        CHECK.due("none", -1, x.hears(10));
        int[][] hards = {{24, 99}, {1, 30}, {2, 0}, {5, 8}, {6, 5}, {1, 99}, {3, 20}};
        for (int i = 0; i < hards.length; i++) {
            CHECK.due("hard " + i, i + 1, x.hard(hards[i][0], hards[i][1]));
        }
        CHECK.due("an eighth", -1, x.hard(1, 1));
        // By due: 2 ends at 2, 4 at 8, 3 at 13, 5 late.
        CHECK.due("lateness", 5, x.hears(0));
        int[] order = new int[7];
        for (int i = 0; i < 7; i++) {
            order[i] = x.hears(10 + i);
        }
        CHECK.due("lateness of the order", 5, latest(hards, order));
        CHECK.due("no earlier order is as good", 0, earlierAsGood(hards, order, 5));
        CHECK.due("order has all", 127, setOf(order));
        CHECK.due("no such one", -1, x.hears(17));
        CHECK.due("another what", -1, x.hears(1));
        CHECK.due("another what", -1, x.hears(9));
        for (int f : FAR) {
            CHECK.due("another what", -1, x.hears(f));
        }
        CHECK.due("none is then", 0, x.hard(-1, 5));
        CHECK.due("none", 0, x.hears(0));
        CHECK.due("none", -1, x.hears(10));
        CHECK.due("one", 1, x.hard(9, 2));
        CHECK.due("two", 2, x.hard(9, 30));
        CHECK.due("lateness of the first", 7, x.hears(0));
        CHECK.due("it is heard first", 0, x.hears(10));
        CHECK.due("then the other", 1, x.hears(11));
        x.hard(-1, 0);
        x.hard(24, 99);
        x.hard(1, 99);
        CHECK.due("never below 0", 0, x.hears(0));
        CHECK.due("the first order", 0, x.hears(10));
        CHECK.due("the first order", 1, x.hears(11));
    }

    private static int setOf(int[] order) {
        int set = 0;
        for (int i : order) {
            set |= 1 << i;
        }
        return set;
    }

    private static int latest(int[][] hards, int[] order) {
        int hour = 0;
        int late = 0;
        for (int i : order) {
            hour += hards[i][0];
            late = Math.max(late, hour - hards[i][1]);
        }
        return late;
    }

    /** 1 if an order that is as little late stands ahead of this one, tried one by one. */
    private static int earlierAsGood(int[][] hards, int[] order, int late) {
        int[] tried = {0, 1, 2, 3, 4, 5, 6};
        for (int n = 0; n < 5040 && !java.util.Arrays.equals(tried, order); n++) {
            if (latest(hards, tried) <= late) {
                return 1;
            }
            nextOrder(tried);
        }
        return 0;
    }

    private static void nextOrder(int[] order) {
        int i = order.length - 2;
        while (i >= 0 && order[i] > order[i + 1]) {
            i--;
        }
        if (i < 0) {
            return;
        }
        int j = order.length - 1;
        while (order[j] < order[i]) {
            j--;
        }
        int held = order[i];
        order[i] = order[j];
        order[j] = held;
        java.util.Arrays.sort(order, i + 1, order.length);
    }

    private static void game() {
        WornWigs x = new WornWigs();
        CHECK.due("without wigs", -1, x.game(0));
        for (int i = 0; i < 4; i++) {
            x.wig(0, 50);
        }
        CHECK.due("without rules", -1, x.game(0));
        CHECK.due("without rules", -1, x.game(1));
        addRules(x, 1, 3);
        CHECK.due("one wig: all", 1, x.game(0));
        CHECK.due("one wig: all", 3, x.game(1));
        addRules(x, 2, 3);
        CHECK.due("who begins loses", -1, x.game(0));
        CHECK.due("who begins loses", -1, x.game(1));
        addRules(x, 3, 5);
        CHECK.due("the third", 3, x.game(0));
        CHECK.due("the third", 5, x.game(1));
        addRules(x, 0, 5);
        addRules(x, 1, 2);
        CHECK.due("5, 5, 3 and 5: the least of several", 0, x.game(0));
        CHECK.due("3 are left of its 5", 2, x.game(1));
        CHECK.due("another what", -1, x.game(2));
        CHECK.due("another what", -1, x.game(-1));
        CHECK.due("nothing was pulled", 5, x.of(0, 5));
    }

    private static void addRules(WornWigs x, int wig, int n) {
        for (int i = 0; i < n; i++) {
            x.rule(wig, i, 1, 1);
        }
    }
}
