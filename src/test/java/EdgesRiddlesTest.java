/** The edges of TRAITS, CITES, ESTATE, HEARS and GAME, sentence by sentence: promises 29 to 37. */
public final class EdgesRiddlesTest {
    private static final Checks CHECK = new Checks();
    private static final int MIN = Integer.MIN_VALUE;
    private static final int MAX = Integer.MAX_VALUE;

    public static void main(String[] args) {
        CHECK.runAll(EdgesRiddlesTest.class);
        CHECK.end();
    }

    // Promise 29: "TRAITS (what NONE: none are then): how many;"
    private static void traitsAreCountedAndForgotten() {
        WornWigs x = Checks.bench(2, 0, 0);
        CHECK.due("none to forget", 0, x.trait(-1, 0, true));
        CHECK.due("one", 1, x.trait(0, 1, true));
        CHECK.due("the same again", 2, x.trait(0, 1, true));
        CHECK.due("no wig is so", 0, x.whose(0));
        int[] any = {MIN, -1, 0, 100, MAX};
        for (int v : any) {
            x.trait(0, 1, true);
            CHECK.due("none are then, whatever v is", 0, x.trait(-1, v, v > 0));
            CHECK.due("all wigs are so", 3, x.whose(0));
        }
        CHECK.due("one again", 1, x.trait(0, 0, true));
    }

    // Promise 29: "NONE if one can't be (COLOUR 0 .. 2, CAUSE 0 .. 7, else 0 .. 99),"
    private static void traitBeyondItsBounds() {
        WornWigs x = Checks.bench(2, 0, 0);
        int[] most = {2, 99, 7, 99};
        for (int what = 0; what < 4; what++) {
            int[] wrong = {-1, most[what] + 1, MIN, MAX};
            for (int v : wrong) {
                int asked = what;
                CHECK.refused(x, "trait(" + what + ", " + v + ")", -1, () -> x.trait(asked, v, true));
            }
            CHECK.due("the least", 2 * what + 1, x.trait(what, 0, true));
            CHECK.due("the most", 2 * what + 2, x.trait(what, most[what], true));
        }
        x.trait(-1, 0, true);
        int[] others = {-2, 4, MIN, MAX};
        for (int what : others) {
            CHECK.refused(x, "trait(" + what + ", 0)", -1, () -> x.trait(what, 0, true));
        }
    }

    // Promise 29: "or there are eight."
    // Promise 29, terms: "TRAITS: up to 8 told:"
    private static void ninthTrait() {
        WornWigs x = Checks.bench(2, 0, 0);
        for (int i = 1; i <= 7; i++) {
            CHECK.due("trait", i, x.trait(1, 0, true));
        }
        CHECK.due("all are so", 3, x.whose(0));
        CHECK.due("the eighth", 8, x.trait(1, 99, true));
        CHECK.due("the eighth counts", 0, x.whose(0));
        CHECK.refused(x, "the ninth", -1, () -> x.trait(1, 0, true));
    }

    // Promise 30: "WHOSE (what 0), as a set;"
    // Promise 30, terms: "what 0 COLOUR, 1 HAIR at least v, 2 has a RULE for CAUSE v, 3 LENT at least v, is or is not
    // so. WHOSE: WIGS for which all is so: a set."
    private static void eachTraitIsOrIsNotSo() {
        WornWigs x = new WornWigs();
        x.judge(30, 0);
        for (int w = 0; w < 8; w++) {
            x.wig(w % 3, w == 7 ? 99 : 10 * w);
            x.rule(w, w, 0, 1);
            for (int i = 0; i < w; i++) {
                x.act(0, w, 0);
                x.act(1, w, 0);
            }
        }
        int[][] due = {{0, 0, 1 + 8 + 64}, {0, 1, 2 + 16 + 128}, {0, 2, 4 + 32}, {1, 0, 255}, {1, 10, 254}, {1, 11, 252},
            {1, 99, 128}, {2, 0, 1}, {2, 7, 128}, {3, 0, 255}, {3, 1, 254}, {3, 7, 128}, {3, 8, 0}, {3, 99, 0}};
        for (int[] d : due) {
            x.trait(-1, 0, true);
            x.trait(d[0], d[1], true);
            CHECK.due(d[0] + " " + d[1] + " is so", d[2], x.whose(0));
            x.trait(-1, 0, true);
            x.trait(d[0], d[1], false);
            CHECK.due(d[0] + " " + d[1] + " is not so", 255 - d[2], x.whose(0));
            x.trait(d[0], d[1], true);
            CHECK.due("both can't be", 0, x.whose(0));
        }
    }

    // Promise 30: "WHOSE (what 0), as a set;"
    private static void whoseWithoutTraitsOrWigs() {
        WornWigs x = new WornWigs();
        CHECK.due("without wigs", 0, x.whose(0));
        x.trait(0, 0, false);
        CHECK.due("without wigs", 0, x.whose(0));
        WornWigs y = Checks.bench(8, 0, 0);
        CHECK.due("without traits all are", 255, y.whose(0));
    }

    // Promise 30: "LOOK (1; NONE: fewer than two)."
    private static void lookOfFewerThanTwo() {
        WornWigs x = new WornWigs();
        CHECK.due("of none", -1, x.whose(1));
        x.wig(0, 0);
        CHECK.due("of one", -1, x.whose(1));
        x.wig(1, 0);
        CHECK.due("of two", 0, x.whose(1));
        x.trait(0, 1, true);
        CHECK.due("of one that is so", -1, x.whose(1));
        x.trait(0, 0, true);
        CHECK.due("of none that is so", -1, x.whose(1));
    }

    // Promise 30, terms: "LOOK: CAUSE v for which of these the greater number of those that have a RULE for it and not
    // is least; of several the least."
    private static void lookAtTheCauseThatParts() {
        WornWigs x = Checks.bench(4, 0, 0);
        CHECK.due("no rules: the least cause", 0, x.whose(1));
        x.rule(3, 7, 0, 1);
        CHECK.due("one and three", 7, x.whose(1));
        for (int w = 0; w < 3; w++) {
            x.rule(w, 6, 0, 1);
        }
        CHECK.due("three and one is as good: the least cause", 6, x.whose(1));
        x.rule(0, 7, 0, 1);
        CHECK.due("two and two", 7, x.whose(1));
        x.rule(3, 6, 0, 1);
        CHECK.due("all and none is as bad as none and all", 7, x.whose(1));
        x.rule(1, 0, 1, 1);
        x.rule(1, 0, -1, 1);
        CHECK.due("two rules of one wig are one wig", 7, x.whose(1));
        x.rule(2, 0, 1, 1);
        CHECK.due("two and two: the least cause", 0, x.whose(1));
        x.trait(2, 0, false);
        CHECK.due("of those two that are so none or both know 0, 6 and 7", 0, x.whose(1));
        x.rule(3, 5, 1, 1);
        CHECK.due("one and one", 5, x.whose(1));
    }

    // Promise 30: "NONE for another what."
    private static void whoseOfAnotherWhat() {
        WornWigs x = Checks.bench(3, 0, 0);
        int[] others = {-1, 2, MIN, MAX};
        for (int what : others) {
            CHECK.due("whose(" + what + ")", -1, x.whose(what));
        }
    }

    // Promise 31: "CITES (a NONE: nothing is then): how many;"
    private static void citesAreCountedAndForgotten() {
        WornWigs x = new WornWigs();
        CHECK.due("nothing to forget", 0, x.cite(-1, 0));
        CHECK.due("one", 1, x.cite(0, 13));
        CHECK.due("the same again", 2, x.cite(0, 13));
        int[] any = {MIN, -1, 0, 14, MAX};
        for (int b : any) {
            x.cite(13, 0);
            CHECK.due("nothing is then, whatever b is", 0, x.cite(-1, b));
            CHECK.due("no chain", 0, x.chain(0));
        }
        CHECK.due("one again", 1, x.cite(1, 0));
    }

    // Promise 31: "NONE if one can't be,"
    // Promise 31, terms: "CASE a cites CASE b (0 .. 13; unlike)."
    private static void citeBeyondItsBounds() {
        WornWigs x = new WornWigs();
        int[][] wrong = {{0, 0}, {13, 13}, {14, 0}, {0, 14}, {0, -1}, {-2, 0}, {MIN, 0}, {0, MIN}, {MAX, 0}, {0, MAX}};
        for (int[] c : wrong) {
            CHECK.refused(x, "cite(" + c[0] + ", " + c[1] + ")", -1, () -> x.cite(c[0], c[1]));
        }
        CHECK.due("the last cites the first, though there is no case", 1, x.cite(13, 0));
        CHECK.due("the first", 13, x.chain(1));
        x.cite(-1, 0);
        CHECK.due("the first cites the last", 1, x.cite(0, 13));
    }

    // Promise 31: "or there are sixteen."
    // Promise 31, terms: "CITES, up to 16 told:"
    private static void seventeenthCite() {
        WornWigs x = new WornWigs();
        for (int i = 1; i <= 15; i++) {
            CHECK.due("cite", i, x.cite(1, 2));
        }
        CHECK.due("two", 2, x.chain(0));
        CHECK.due("the sixteenth", 16, x.cite(2, 3));
        CHECK.due("the sixteenth counts", 3, x.chain(0));
        CHECK.refused(x, "the seventeenth", -1, () -> x.cite(3, 4));
    }

    // Promise 32: "CHAIN what 0 how many (0 without CITES), 1 the first (NONE without)."
    private static void chainWithoutCites() {
        WornWigs x = Checks.bench(0, 0, 14);
        CHECK.due("how many", 0, x.chain(0));
        CHECK.due("the first", -1, x.chain(1));
        x.cite(0, 1);
        x.cite(-1, 0);
        CHECK.due("how many", 0, x.chain(0));
        CHECK.due("the first", -1, x.chain(1));
    }

    private static void dueChain(String what, int many, int first, int... cites) {
        WornWigs x = new WornWigs();
        for (int i = 0; i < cites.length; i += 2) {
            x.cite(cites[i], cites[i + 1]);
        }
        CHECK.due(what + ": how many", many, x.chain(0));
        CHECK.due(what + ": the first", first, x.chain(1));
    }

    // Promise 32, terms: "CHAIN: the longest row of CASES each citing the next one (none if they go round): how many;
    // the first of one (the least)."
    private static void longestRow() {
        dueChain("one cite", 2, 5, 5, 9);
        dueChain("one cite twice", 2, 5, 5, 9, 5, 9);
        dueChain("of several the least first", 2, 3, 9, 8, 3, 4, 5, 6);
        dueChain("the longer one", 3, 9, 0, 1, 9, 8, 8, 7);
        dueChain("two ways", 4, 0, 0, 3, 0, 1, 1, 2, 2, 3);
        dueChain("two begin it", 3, 1, 4, 7, 7, 8, 1, 7);
        dueChain("two end it", 3, 6, 6, 7, 7, 0, 7, 1);
        int[] up = new int[26];
        int[] down = new int[26];
        for (int i = 0; i < 13; i++) {
            up[2 * i] = i;
            up[2 * i + 1] = i + 1;
            down[2 * i] = i + 1;
            down[2 * i + 1] = i;
        }
        dueChain("all fourteen upwards", 14, 0, up);
        dueChain("all fourteen downwards", 14, 13, down);
    }

    // Promise 32: "NONE if they go round, or for another what."
    // Promise 32, terms: "CHAIN: the longest row of CASES each citing the next one (none if they go round): how many;
    // the first of one (the least)."
    private static void theyGoRound() {
        dueChain("two", -1, -1, 0, 1, 1, 0);
        dueChain("three", -1, -1, 0, 1, 1, 2, 2, 0);
        dueChain("a round beside a row", -1, -1, 0, 1, 1, 2, 12, 13, 13, 12);
        dueChain("a round behind a row", -1, -1, 0, 1, 1, 2, 2, 1);
        int[] all = new int[28];
        for (int i = 0; i < 14; i++) {
            all[2 * i] = i;
            all[2 * i + 1] = (i + 1) % 14;
        }
        dueChain("all fourteen", -1, -1, all);
        dueChain("two ways to one are no round", 3, 0, 0, 1, 0, 2, 1, 2, 0, 2);
    }

    // Promise 32: "NONE if they go round, or for another what."
    private static void chainOfAnotherWhat() {
        WornWigs x = new WornWigs();
        x.cite(1, 0);
        int[] others = {-1, 2, MIN, MAX};
        for (int what : others) {
            CHECK.due("chain(" + what + ")", -1, x.chain(what));
        }
    }

    // Promise 33: "ESTATE: parcel k (0 .. 9) is worth so much to the one (0), the other (1): true;"
    // Promise 33, terms: "ESTATE: ten told parcels, of each what it is worth to the one and the other (0 .. 99; 0 at
    // first):"
    private static void parcelsAtTheBounds() {
        WornWigs x = new WornWigs();
        CHECK.due("0 at first", 0, x.cut(1));
        CHECK.due("0 at first", 0, x.cut(2));
        for (int k = 0; k < 10; k++) {
            CHECK.due("the most to the one", true, x.parcel(k, 0, 99));
            CHECK.due("the most to the other", true, x.parcel(k, 1, 99));
        }
        CHECK.due("place", 5, x.cut(0));
        CHECK.due("the other", 495, x.cut(1));
        CHECK.due("the one", 495, x.cut(2));
        for (int k = 0; k < 10; k++) {
            CHECK.due("the least", true, x.parcel(k, 0, 0));
            CHECK.due("the least", true, x.parcel(k, 1, 0));
        }
        CHECK.due("told anew", 0, x.cut(1));
        CHECK.due("told anew", 0, x.cut(2));
    }

    // Promise 33: "false if one can't be."
    private static void parcelBeyondItsBounds() {
        WornWigs x = new WornWigs();
        x.parcel(9, 0, 5);
        x.parcel(0, 1, 5);
        int[][] wrong = {{-1, 0, 9}, {10, 0, 9}, {MIN, 0, 9}, {MAX, 0, 9}, {-1, 1, 9}, {10, 1, 9}, {0, -1, 9}, {0, 2, 9},
            {0, MIN, 9}, {0, MAX, 9}, {0, 0, -1}, {0, 0, 100}, {0, 1, MIN}, {0, 1, MAX}};
        for (int[] p : wrong) {
            CHECK.refused(x, "parcel" + java.util.Arrays.toString(p), () -> x.parcel(p[0], p[1], p[2]));
        }
    }

    private static void dueCut(String what, int[] one, int[] other, int place, int otherHas, int oneHas) {
        WornWigs x = new WornWigs();
        for (int k = 0; k < 10; k++) {
            x.parcel(k, 0, one[k]);
            x.parcel(k, 1, other[k]);
        }
        CHECK.due(what + ": the place", place, x.cut(0));
        CHECK.due(what + ": the other has", otherHas, x.cut(1));
        CHECK.due(what + ": the one has", oneHas, x.cut(2));
    }

    // Promise 34: "CUT what 0 the place, 1 what the other has, 2 what the one has."
    // Promise 34, terms: "CUT: the place 1 .. 9 at which the first one cuts so that the lesser of both parts (as worth to
    // it) is greatest (of several the first);"
    private static void placeOfTheCut() {
        int[] none = new int[10];
        dueCut("nothing is worth anything", none, none, 1, 0, 0);
        dueCut("all is in the first", new int[] {9, 0, 0, 0, 0, 0, 0, 0, 0, 0}, none, 1, 0, 0);
        dueCut("all is in the last", new int[] {0, 0, 0, 0, 0, 0, 0, 0, 0, 9}, none, 1, 0, 9);
        dueCut("behind the first alone", new int[] {9, 8, 0, 0, 0, 0, 0, 0, 0, 0}, none, 1, 0, 8);
        dueCut("ahead of the last alone", new int[] {0, 0, 0, 0, 0, 0, 0, 0, 8, 9}, none, 9, 0, 9);
        dueCut("of several the first", new int[] {5, 0, 0, 0, 0, 0, 0, 0, 0, 5}, none, 1, 0, 5);
        dueCut("of several the first", new int[] {5, 9, 5, 0, 0, 0, 0, 0, 0, 0}, none, 1, 0, 14);
        dueCut("the later is better", new int[] {5, 9, 6, 0, 0, 0, 0, 0, 0, 0}, none, 2, 0, 6);
        dueCut("by ones", new int[] {1, 1, 1, 1, 1, 1, 1, 1, 1, 1}, none, 5, 0, 5);
    }

    // Promise 34, terms: "what the other one then has (the part worth more to it; alike: the first part), as worth to
    // it; what the one has."
    private static void otherOneChooses() {
        int[] one = {0, 0, 0, 0, 5, 6, 0, 0, 0, 0};
        dueCut("the first part", one, new int[] {9, 0, 0, 0, 0, 0, 0, 0, 0, 8}, 5, 9, 6);
        dueCut("the second part", one, new int[] {8, 0, 0, 0, 0, 0, 0, 0, 0, 9}, 5, 9, 5);
        dueCut("alike: the first part", one, new int[] {9, 0, 0, 0, 0, 0, 0, 0, 0, 9}, 5, 9, 6);
        dueCut("the parcel ahead of the place is of the first part", one, new int[] {0, 0, 0, 0, 1, 0, 0, 0, 0, 0}, 5, 1,
                6);
        dueCut("the parcel behind it of the second", one, new int[] {0, 0, 0, 0, 0, 1, 0, 0, 0, 0}, 5, 1, 5);
        dueCut("nothing is worth anything to it: the first part", one, new int[10], 5, 0, 6);
        int[] atTheEnds = {7, 0, 0, 0, 0, 0, 0, 0, 0, 6};
        dueCut("the first parcel is in the first part", atTheEnds, new int[] {3, 0, 0, 0, 0, 0, 0, 0, 0, 4}, 1, 4, 7);
        dueCut("the last parcel is in the second part", atTheEnds, new int[] {4, 0, 0, 0, 0, 0, 0, 0, 0, 3}, 1, 4, 6);
        dueCut("what is worth to the one is not to the other", new int[] {99, 0, 0, 0, 0, 0, 0, 0, 0, 99},
                new int[] {0, 0, 0, 0, 1, 0, 0, 0, 0, 0}, 1, 1, 99);
        dueCut("what is worth to the one is not to the other", new int[] {0, 0, 0, 0, 0, 0, 0, 0, 99, 98},
                new int[] {0, 0, 0, 0, 0, 0, 0, 0, 0, 1}, 9, 1, 99);
    }

    // Promise 34: "NONE for another what."
    private static void cutOfAnotherWhat() {
        WornWigs x = new WornWigs();
        int[] others = {-1, 3, MIN, MAX};
        for (int what : others) {
            CHECK.due("cut(" + what + ")", -1, x.cut(what));
        }
    }

    // Promise 35: "A hard case for HEARS (hours NONE: none is then): how many;"
    private static void hardCasesAreCountedAndForgotten() {
        WornWigs x = new WornWigs();
        CHECK.due("none to forget", 0, x.hard(-1, 0));
        CHECK.due("one", 1, x.hard(5, 0));
        CHECK.due("the same again", 2, x.hard(5, 0));
        CHECK.due("lateness", 10, x.hears(0));
        int[] any = {MIN, -1, 0, 100, MAX};
        for (int due : any) {
            x.hard(9, 0);
            CHECK.due("none is then, whatever due is", 0, x.hard(-1, due));
            CHECK.due("no lateness", 0, x.hears(0));
        }
        CHECK.due("one again", 1, x.hard(1, 1));
    }

    // Promise 35: "NONE if one can't be,"
    // Promise 35, terms: "(hours 1 .. 24, due 0 .. 99):"
    private static void hardCaseBeyondItsBounds() {
        WornWigs x = new WornWigs();
        int[][] wrong = {{0, 5}, {25, 5}, {-2, 5}, {MIN, 5}, {MAX, 5}, {5, -1}, {5, 100}, {5, MIN}, {5, MAX}};
        for (int[] h : wrong) {
            CHECK.refused(x, "hard(" + h[0] + ", " + h[1] + ")", -1, () -> x.hard(h[0], h[1]));
        }
        int[][] right = {{1, 0}, {24, 99}, {24, 0}, {1, 99}};
        for (int i = 0; i < 4; i++) {
            CHECK.due("a hard case at the bounds", i + 1, x.hard(right[i][0], right[i][1]));
        }
        CHECK.due("1 and 24 hours for what is due at once", 25, x.hears(0));
    }

    // Promise 35: "or there are seven."
    // Promise 35, terms: "HEARS: up to 7 told hard cases"
    private static void eighthHardCase() {
        WornWigs x = new WornWigs();
        for (int i = 1; i <= 6; i++) {
            CHECK.due("hard", i, x.hard(24, 0));
        }
        CHECK.due("lateness of six", 144, x.hears(0));
        CHECK.due("the seventh", 7, x.hard(24, 0));
        CHECK.due("lateness of seven", 168, x.hears(0));
        CHECK.refused(x, "the eighth", -1, () -> x.hard(1, 0));
    }

    private static void dueHears(String what, int late, int[][] hards, int... order) {
        WornWigs x = new WornWigs();
        for (int[] h : hards) {
            x.hard(h[0], h[1]);
        }
        CHECK.due(what + ": lateness", late, x.hears(0));
        for (int i = 0; i < order.length; i++) {
            CHECK.due(what + ": the one at " + i, order[i], x.hears(10 + i));
        }
        CHECK.due(what + ": none behind the last", -1, x.hears(10 + order.length));
    }

    // Promise 36: "HEARS what 0 the lateness, 10 + i the i-th."
    // Promise 36, terms: "one behind the other: the order in which the greatest lateness (hour at which one ends, from 0,
    // less due; 0 at least) is least: that; the i-th: of several orders the first."
    private static void leastLateness() {
        dueHears("none", 0, new int[][] {});
        dueHears("just in time", 0, new int[][] {{5, 5}}, 0);
        dueHears("one late", 1, new int[][] {{5, 4}}, 0);
        dueHears("early is 0", 0, new int[][] {{5, 99}}, 0);
        dueHears("the later due first, as it is as good", 0, new int[][] {{5, 99}, {5, 10}}, 0, 1);
        dueHears("the later due behind", 0, new int[][] {{5, 99}, {5, 9}}, 1, 0);
        dueHears("of several orders the first", 10, new int[][] {{5, 0}, {5, 0}}, 0, 1);
        dueHears("what is late anyway gives room to the others", 9, new int[][] {{5, 12}, {9, 0}, {3, 10}}, 1, 0, 2);
        dueHears("the first order that keeps it", 6, new int[][] {{1, 99}, {8, 2}, {1, 99}, {1, 99}}, 1, 0, 2, 3);
        dueHears("seven, the last due soonest", 0,
                new int[][] {{1, 7}, {1, 6}, {1, 5}, {1, 4}, {1, 3}, {1, 2}, {1, 1}}, 6, 5, 4, 3, 2, 1, 0);
        dueHears("seven alike", 168, new int[][] {{24, 0}, {24, 0}, {24, 0}, {24, 0}, {24, 0}, {24, 0}, {24, 0}}, 0, 1,
                2, 3, 4, 5, 6);
    }

    // Promise 36: "NONE if there is none such, or another what."
    private static void hearsOfNoneSuch() {
        WornWigs x = new WornWigs();
        CHECK.due("none is told", -1, x.hears(10));
        for (int i = 0; i < 7; i++) {
            x.hard(1, 1);
        }
        CHECK.due("the last", 6, x.hears(16));
        int[] others = {-1, 1, 9, 17, 18, MIN, MAX};
        for (int what : others) {
            CHECK.due("hears(" + what + ")", -1, x.hears(what));
        }
    }

    private static void dueGame(String what, int wig, int many, int... rules) {
        WornWigs x = Checks.bench(rules.length, 0, 0);
        for (int w = 0; w < rules.length; w++) {
            for (int i = 0; i < rules[w]; i++) {
                x.rule(w, 0, 0, 1);
            }
        }
        CHECK.due(what + ": the wig", wig, x.game(0));
        CHECK.due(what + ": how many", many, x.game(1));
    }

    // Promise 37: "GAME what 0 the WIG, 1 how many."
    // Promise 37, terms: "GAME: two by turns pull 1 or more hairs (RULES) of one WIG; who pulls the last one of all
    // wins: the WIG (of several the least), how many (the fewest) who begins well pulls."
    private static void whoBeginsWell() {
        dueGame("one hair", 0, 1, 1);
        dueGame("all of one wig", 0, 8, 8);
        dueGame("all of the only one that has some", 7, 8, 0, 0, 0, 0, 0, 0, 0, 8);
        dueGame("as many as in the other are left", 1, 3, 2, 5);
        dueGame("as many as in the other are left", 0, 7, 8, 1);
        dueGame("three ones: the least", 0, 1, 1, 1, 1);
        dueGame("1, 2 and 4", 2, 1, 1, 2, 4);
        dueGame("three wigs would do: the least", 0, 1, 3, 3, 2, 3);
        dueGame("8 and 7", 0, 1, 8, 7);
        dueGame("seven of eight and one of none", 0, 8, 8, 8, 8, 8, 8, 8, 8, 0);
    }

    // Promise 37: "NONE if who begins loses, or for another what."
    private static void whoBeginsLoses() {
        dueGame("without wigs", -1, -1);
        dueGame("without hairs", -1, -1, 0, 0);
        dueGame("one and one", -1, -1, 1, 1);
        dueGame("1, 2 and 3", -1, -1, 1, 2, 3);
        dueGame("1, 4 and 5", -1, -1, 5, 1, 0, 4);
        dueGame("eight alike", -1, -1, 8, 8, 8, 8, 8, 8, 8, 8);
    }

    // Promise 37: "NONE if who begins loses, or for another what."
    private static void gameOfAnotherWhat() {
        WornWigs x = Checks.bench(1, 0, 0);
        x.rule(0, 0, 0, 1);
        int[] others = {-1, 2, MIN, MAX};
        for (int what : others) {
            CHECK.due("game(" + what + ")", -1, x.game(what));
        }
    }
}
