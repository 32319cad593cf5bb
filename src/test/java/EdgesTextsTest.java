/** The edges of the TAPE, the TEXTS and their FAULTS, and of THE LAW, sentence by sentence: promises 11 to 14. */
public final class EdgesTextsTest {
    private static final Checks CHECK = new Checks();
    private static final int MIN = Integer.MIN_VALUE;
    private static final int MAX = Integer.MAX_VALUE;

    public static void main(String[] args) {
        CHECK.runAll(EdgesTextsTest.class);
        CHECK.end();
    }

    private static int four(String text) {
        return text.charAt(0) << 24 | text.charAt(1) << 16 | text.charAt(2) << 8 | text.charAt(3);
    }

    // Promise 11: "Twenty bytes come behind the TAPE, of each number the highest first: how many it has."
    private static void bytesComeTheHighestFirst() {
        WornWigs x = Checks.bench(1, 0, 0);
        CHECK.due("twenty", 20, x.feed(four("moth"), four(" 12;"), four("moth"), four(" 34;"), four("moth")));
        CHECK.due("forty", 40, x.feed(four(" 56;"), four("    "), four("    "), four("    "), four("    ")));
        CHECK.due("three lines", 3, x.text(0));
        CHECK.due("the first line is 12", 12, x.of(0, 6));
    }

    // Promise 11: "Twenty bytes come behind the TAPE, of each number the highest first: how many it has."
    private static void bytesAbove127ComeAsTheyAre() {
        WornWigs x = new WornWigs();
        x.feed(-1, MIN, MAX, 0, four("    "));
        CHECK.due("no text", -1, x.text(0));
        CHECK.due("the first byte can't stand", 0, x.fault(1));
        x.feed(four("    "), four("    "), four("    "), four("    "), 0x202020a0);
        CHECK.due("no text", -1, x.text(0));
        CHECK.due("160 is no blank", 19, x.fault(1));
    }

    // Promise 11: "NONE, and nothing comes, if there would be more than 400."
    private static void tapeHasFourHundredBytes() {
        WornWigs x = new WornWigs();
        for (int i = 1; i <= 20; i++) {
            CHECK.due("feed " + i, 20 * i, x.feed(0, 0, 0, 0, 0));
        }
        CHECK.refused(x, "420", -1, () -> x.feed(0, 0, 0, 0, 0));
        CHECK.due("no byte came", false, x.end(401));
        CHECK.due("all are there", true, x.end(400));
        int[] lengths = {399, 390, 381};
        for (int n : lengths) {
            x.end(n);
            CHECK.due(n + " and 20", -1, x.feed(0, 0, 0, 0, 0));
            CHECK.due("no byte came", false, x.end(n + 1));
            CHECK.due("all are there", true, x.end(n));
        }
        x.end(380);
        CHECK.due("380 and 20", 400, x.feed(0, 0, 0, 0, 0));
    }

    // Promise 12: "The TAPE has its first n bytes alone: true;"
    private static void tapeIsCut() {
        WornWigs x = Checks.bench(1, 0, 0);
        x.feed(four("moth"), four(" 12;"), four("moth"), four(" 34;"), four("moth"));
        CHECK.due("all of it", true, x.end(20));
        CHECK.due("behind the first line", true, x.end(8));
        CHECK.due("it goes on there", 28, x.feed(four("dies"), four(" 5; "), four("    "), four("    "), four("    ")));
        CHECK.due("two lines", 2, x.text(0));
        x.feed(four("moth"), four(" 12;"), 0, 0, 0);
        CHECK.due("a byte of a number is cut off", true, x.end(6));
        CHECK.due("feed", 26, x.feed(four(";   "), four("    "), four("    "), four("    "), four("    ")));
        CHECK.due("one line", 1, x.text(0));
        CHECK.due("moth 1", 1, x.of(0, 6));
        x.feed(0, 0, 0, 0, 0);
        CHECK.due("nothing is left", true, x.end(0));
        CHECK.due("an empty text", 0, x.text(0));
    }

    // Promise 12: "The TAPE has its first n bytes alone: true;"
    private static void whatIsCutOffIsNotRead() {
        WornWigs x = Checks.bench(1, 0, 0);
        String[] cut = {"moth 1234|5;", "moth age|age;", "moth| 1;", "moth 1 |;", "moth 1+|1;", "mo|th 1;"};
        int[] places = {9, 8, 4, 7, 7, 0};
        for (int i = 0; i < cut.length; i++) {
            Checks.tape(x, cut[i].replace("|", ""));
            x.end(cut[i].indexOf('|'));
            CHECK.due("'" + cut[i] + "'", -1, x.text(0));
            CHECK.due("fault of '" + cut[i] + "'", 1, x.fault(0));
            CHECK.due("place of '" + cut[i] + "'", places[i], x.fault(1));
        }
    }

    // Promise 12: "false, changing nothing, if it has not so many, or n is below 0."
    private static void tapeHasNotSoMany() {
        WornWigs x = new WornWigs();
        CHECK.due("0 of 0", true, x.end(0));
        CHECK.refused(x, "1 of 0", () -> x.end(1));
        CHECK.refused(x, "-1 of 0", () -> x.end(-1));
        x.feed(0, 0, 0, 0, 0);
        int[] wrong = {21, -1, MIN, MAX, 400};
        for (int n : wrong) {
            CHECK.refused(x, "end(" + n + ") of 20", () -> x.end(n));
        }
        CHECK.due("still 20", true, x.end(20));
        CHECK.due("19", true, x.end(19));
        CHECK.refused(x, "20 of 19", () -> x.end(20));
    }

    // Promise 13: "The TAPE, empty then, is TEXT k: how many lines."
    // Promise 13, terms: "TEXTS (empty at first)."
    private static void eachTextHasItsLines() {
        WornWigs x = Checks.bench(2, 1, 1);
        String[] texts = {"moth 1;", "in 1 case 0 before 0;", "in 1 off 0;", "wig 0 of 1;"};
        for (int k = 0; k < 4; k++) {
            CHECK.due("empty at first", 0, x.look(8 + k));
            CHECK.due("one line", 1, Checks.text(x, k, texts[k]));
            CHECK.due("the tape is empty", 0, Checks.tapeLength(x));
            CHECK.due("one line", 1, x.look(8 + k));
            CHECK.due("an empty text", 0, x.text(k));
            CHECK.due("no line", 0, x.look(8 + k));
        }
    }

    // Promise 13: "The TAPE, empty then, is TEXT k: how many lines."
    private static void textTakesThePlaceOfTheOneAhead() {
        WornWigs x = Checks.bench(2, 1, 0);
        Checks.text(x, 0, "moth 5; counts 5; dies 5;");
        CHECK.dueText(x, 0, "dies 6;", 1);
        CHECK.due("moth as without a line", 1, x.of(0, 6));
        CHECK.due("dies", 6, x.who(0, 5));
        Checks.text(x, 3, "wig 0 of 1;");
        CHECK.dueText(x, 3, "", 0);
        CHECK.due("no kin", 0, x.kin(0, -1));
    }

    // Promise 13: "NONE: no such one (fault() tells 0),"
    private static void noSuchText() {
        WornWigs x = Checks.bench(1, 0, 0);
        Checks.text(x, 0, "moth 3;");
        int[] none = {-1, 4, MIN, MAX};
        for (int k : none) {
            CHECK.dueFault(x, 0, "moth", 1, 4);
            Checks.tape(x, "moth 5;");
            CHECK.due("text(" + k + ")", -1, x.text(k));
            CHECK.due("fault(0)", 0, x.fault(0));
            CHECK.due("fault(1)", -1, x.fault(1));
            CHECK.due("the tape is empty then, too", 0, Checks.tapeLength(x));
            CHECK.due("the law stays as it was", 3, x.of(0, 6));
        }
    }

    // Promise 13: "or a FAULT (it stays as it was)."
    private static void textWithAFaultStaysAsItWas() {
        WornWigs x = Checks.bench(2, 1, 1);
        String[] texts = {"moth 7;", "in 0 case 0 before 0;", "in 0 brush 0 9;", "wig 0 of 1;"};
        String[] spoilt = {"moth 8; moth 9", "in 0 case 0 before 0; in", "in 0 brush 0 1; in 0 brush 0 0;",
            "wig 1 of 0; wig 0 of 0;"};
        int[][] faults = {{1, 14}, {1, 24}, {2, 29}, {2, 21}};
        for (int k = 0; k < 4; k++) {
            CHECK.dueText(x, k, texts[k], 1);
            CHECK.dueFault(x, k, spoilt[k], faults[k][0], faults[k][1]);
            CHECK.due("one line", 1, x.look(8 + k));
            CHECK.due("the tape is empty all the same", 0, Checks.tapeLength(x));
        }
        CHECK.due("the law as it was", 7, x.of(0, 6));
        CHECK.due("kin as they were", 1, x.kin(0, -1));
        x.years(1);
        CHECK.due("docket and loans as they were", 0, x.look(5));
        CHECK.due("docket and loans as they were", 50 + 9 - 7, x.of(0, 1));
    }

    // Promise 13: "or a FAULT (it stays as it was)."
    private static void faultLeavesNothingForTheNextText() {
        String[] spoilt = {"moth 5 when not (not (1=1;", "moth 5 when ((((((((1=1;", "moth 5 when not not not 1;",
            "moth 5 when 1=2 and;", "moth 5 when 1=1 or 1=1 and not (", "moth 5 when ((((((((((((", "moth 5; moth 5"};
        for (String text : spoilt) {
            WornWigs x = Checks.bench(1, 0, 0);
            CHECK.due("a fault", -1, Checks.text(x, 0, text));
            CHECK.dueText(x, 0, "moth 11 when 1=1; moth 22;", 2);
            CHECK.due("after '" + text + "'", 11, x.of(0, 6));
            CHECK.due("a fault", -1, Checks.text(x, 0, text));
            CHECK.dueFault(x, 0, "moth 11 when 1=1); moth 22;", 1, 16);
            CHECK.due("a fault", -1, Checks.text(x, 0, text));
            CHECK.dueText(x, 0, "moth 11 when ((((((((1=2)))))))) or not 1=1; moth 22;", 2);
            CHECK.due("after '" + text + "'", 22, x.of(0, 6));
        }
    }

    // Promise 14: "Of the latest text() what 0 the FAULT (0 without one), 1 its place (NONE)."
    private static void faultOfTheLatestText() {
        WornWigs x = Checks.bench(1, 0, 0);
        CHECK.due("before any text", 0, x.fault(0));
        CHECK.due("before any text", -1, x.fault(1));
        CHECK.dueFault(x, 0, "moth 1/0;", 2, 7);
        x.feed(0, 0, 0, 0, 0);
        x.end(0);
        x.wig(3, 3);
        CHECK.due("it stays till the next text", 2, x.fault(0));
        CHECK.due("it stays till the next text", 7, x.fault(1));
        CHECK.dueFault(x, 3, ";", 1, 0);
        CHECK.dueText(x, 0, "moth 1;", 1);
    }

    // Promise 14: "NONE for another what."
    private static void faultOfAnotherWhat() {
        WornWigs x = new WornWigs();
        CHECK.dueFault(x, 0, "moth", 1, 4);
        int[] others = {-1, 2, MIN, MAX};
        for (int what : others) {
            CHECK.due("fault(" + what + ")", -1, x.fault(what));
        }
    }

    /** What moth is by a law, of a WIG of COLOUR 0 and HAIR 50. */
    private static int moth(String law) {
        WornWigs x = Checks.bench(1, 0, 0);
        int lines = law.length() - law.replace(";", "").length();
        CHECK.dueText(x, 0, law, lines);
        return x.of(0, 6);
    }

    private static void dueWhen(String condition, boolean isSo) {
        CHECK.due(condition, isSo ? 11 : 22, moth("moth 11 when " + condition + "; moth 22;"));
    }

    private static void lawFault(String law, int fault, int place) {
        CHECK.dueFault(Checks.bench(1, 1, 1), 0, law, fault, place);
    }

    // Promise 13, terms: "0 THE LAW = {(counts | moth | dies) E [when B] ;}."
    private static void lineOfTheLaw() {
        WornWigs x = Checks.bench(1, 1, 0);
        CHECK.dueText(x, 0, "", 0);
        CHECK.dueText(x, 0, "\n", 0);
        CHECK.dueText(x, 0, "counts 1;moth 2;dies 3 when 1=1;", 3);
        lawFault(";", 1, 0);
        lawFault("when 1=1;", 1, 0);
        lawFault("age;", 1, 0);
        lawFault("moth", 1, 4);
        lawFault("moth;", 1, 4);
        lawFault("moth 1", 1, 6);
        lawFault("moth 1 when", 1, 11);
        lawFault("moth 1 when;", 1, 11);
        lawFault("moth 1 when 1=1", 1, 15);
        lawFault("moth 1 when 1=1 when 1=1;", 1, 16);
        lawFault("moth when 1=1;", 1, 5);
        lawFault("moth 1 moth 1;", 1, 7);
        lawFault("moth 1;;", 1, 7);
    }

    // Promise 13, terms: "B = A {or A}. A = C {and C}."
    private static void orAndAnd() {
        dueWhen("1=1 or 1=2", true);
        dueWhen("1=2 or 1=1", true);
        dueWhen("1=2 or 1=2", false);
        dueWhen("1=1 and 1=2", false);
        dueWhen("1=2 and 1=1", false);
        dueWhen("1=1 and 1=1", true);
        dueWhen("1=2 or 1=2 or 1=1", true);
        dueWhen("1=1 and 1=1 and 1=2", false);
        dueWhen("1=1 or 1=1 and 1=2", true);
        dueWhen("1=2 and 1=1 or 1=1", true);
        dueWhen("1=2 and 1=2 or 1=2 and 1=1", false);
        dueWhen("1=2 or 1=1 and 1=1 or 1=2", true);
        lawFault("moth 1 when or 1=1;", 1, 12);
        lawFault("moth 1 when 1=1 or;", 1, 18);
        lawFault("moth 1 when 1=1 and", 1, 19);
        lawFault("moth 1 when 1=1 and or 1=1;", 1, 20);
        lawFault("moth 1 and 1=1;", 1, 7);
    }

    // Promise 13, terms: "C = E (< | = | >) E | not C | ( B )."
    private static void comparisons() {
        dueWhen("1<2", true);
        dueWhen("2<2", false);
        dueWhen("3<2", false);
        dueWhen("1=2", false);
        dueWhen("2=2", true);
        dueWhen("1>2", false);
        dueWhen("2>2", false);
        dueWhen("3>2", true);
        dueWhen("0-1<0", true);
        String[] so = {"1<2", "2=2", "3>2"};
        String[] notSo = {"2<1", "2=1", "2>3"};
        for (int i = 0; i < 3; i++) {
            for (int j = 0; j < 3; j++) {
                dueWhen(so[i] + " and " + so[j], true);
                dueWhen(so[i] + " and " + notSo[j], false);
                dueWhen(notSo[i] + " or " + so[j], true);
                dueWhen(notSo[i] + " or " + notSo[j], false);
            }
            dueWhen("not " + so[i], false);
            dueWhen("not " + notSo[i], true);
        }
        dueWhen("1+1*2=9/3", true);
        lawFault("moth 1 when 1;", 1, 13);
        lawFault("moth 1 when 1<;", 1, 14);
        lawFault("moth 1 when <1;", 1, 12);
        lawFault("moth 1 when 1<1<1;", 1, 15);
        lawFault("moth 1 when 1<=1;", 1, 14);
        lawFault("moth 1 when 1=", 1, 14);
    }

    // Promise 13, terms: "C = E (< | = | >) E | not C | ( B )."
    private static void notAndBrackets() {
        dueWhen("not 1=1", false);
        dueWhen("not not 1=1", true);
        dueWhen("not 1=1 or 1=1", true);
        dueWhen("not 1=2 and 1=2", false);
        dueWhen("not (1=2 and 1=2)", true);
        dueWhen("not (1=1 or 1=2)", false);
        dueWhen("(1=1 or 1=1) and 1=2", false);
        dueWhen("1=2 and (1=1 or 1=1)", false);
        dueWhen("((1=1))", true);
        dueWhen("not ((not (1=1)))", true);
        dueWhen("1=1 and not 1=2 and not (1=2)", true);
        dueWhen("1=2 or not 1=2", true);
        lawFault("moth 1 when ();", 1, 13);
        lawFault("moth 1 when (1=1;", 1, 16);
        lawFault("moth 1 when (1=1", 1, 16);
        lawFault("moth 1 when 1=1);", 1, 15);
        lawFault("moth 1 when ((1=1);", 1, 18);
        lawFault("moth 1 when (1=1)=1;", 1, 17);
        lawFault("moth 1 when (1)=1;", 1, 14);
        lawFault("moth 1 when 1=(1);", 1, 14);
        lawFault("moth 1 when not;", 1, 15);
        lawFault("moth 1 when 1=1 not 1=1;", 1, 16);
        lawFault("moth 1 when 1 not = 1;", 1, 14);
        lawFault("moth (1);", 1, 5);
        lawFault("moth not 1;", 1, 5);
    }

    // Promise 13, terms: "E = T {(+ | -) T}. T = U {* U | / NUMBER}."
    private static void sumsAndProducts() {
        CHECK.due("- from the left", 5, moth("moth 10-3-2;"));
        CHECK.due("- and +", 9, moth("moth 10-3+2;"));
        CHECK.due("* ahead of +", 14, moth("moth 2+3*4;"));
        CHECK.due("* ahead of -", 8, moth("moth 20-3*4;"));
        CHECK.due("/ ahead of +", 12, moth("moth 2+20/2;"));
        CHECK.due("/ and * from the left", 9, moth("moth 10/3*3;"));
        CHECK.due("* and / from the left", 10, moth("moth 10*3/3;"));
        CHECK.due("/ and / from the left", 5, moth("moth 21/2/2;"));
        lawFault("moth +1;", 1, 5);
        lawFault("moth -1;", 1, 5);
        lawFault("moth 1+;", 1, 7);
        lawFault("moth 1-", 1, 7);
        lawFault("moth 1*;", 1, 7);
        lawFault("moth 1++1;", 1, 7);
        lawFault("moth 1*-1;", 1, 7);
        lawFault("moth 1/age;", 1, 7);
        lawFault("moth 1/;", 1, 7);
        lawFault("moth 1/(1);", 1, 7);
        lawFault("moth 1 1;", 1, 7);
        lawFault("moth age age;", 1, 9);
    }

    // Promise 13, terms: "U = NUMBER | age | mind | colour | hair | itch | lent | cause | weight | tried | year."
    private static void unitsOfTheLaw() {
        WornWigs x = Checks.bench(1, 1, 0);
        String[] words = {"age", "mind", "colour", "hair", "itch", "lent", "cause", "weight", "tried", "year"};
        for (String word : words) {
            CHECK.dueText(x, 0, "counts " + word + "; moth " + word + " when " + word + " = " + word + "; dies " + word
                    + "*" + word + ";", 3);
            CHECK.dueFault(x, 0, word + " 1;", 1, 0);
        }
        String[] others = {"counts", "moth", "dies", "when", "or", "and", "not", "in", "case", "before", "wig", "on",
            "off", "comb", "brush", "of", "dead", "a"};
        for (String word : others) {
            CHECK.dueFault(x, 0, "moth " + word + ";", 1, 5);
        }
    }

    // Promise 13, terms: "1 DOCKET = {in YEAR case CASE before JUDGE ;}"
    private static void lineOfTheDocket() {
        WornWigs x = Checks.bench(2, 10, 14);
        CHECK.dueText(x, 1, "", 0);
        CHECK.dueText(x, 1, "in 0 case 0 before 0;in 999 case 13 before 9;", 2);
        String[] cut = {"in", "in 0", "in 0 case", "in 0 case 0", "in 0 case 0 before", "in 0 case 0 before 0"};
        for (String text : cut) {
            CHECK.dueFault(x, 1, text, 1, text.length());
            CHECK.dueFault(x, 1, text + " before before", 1, text.length() + (text.endsWith("case 0") ? 8 : 1));
            if (!text.endsWith("before 0")) {
                CHECK.dueFault(x, 1, text + ";", 1, text.length());
            }
        }
        CHECK.dueFault(x, 1, ";", 1, 0);
        CHECK.dueFault(x, 1, "case 0 before 0;", 1, 0);
        CHECK.dueFault(x, 1, "in case 0 before 0;", 1, 3);
        CHECK.dueFault(x, 1, "in 0 wig 0 on 0;", 1, 5);
        CHECK.dueFault(x, 1, "in 0 case 0 on 0;", 1, 12);
        CHECK.dueFault(x, 1, "in 0 case 0 before 0 0;", 1, 21);
    }

    // Promise 13, terms: "2 LOANS = {in YEAR (wig WIG on JUDGE | off WIG | comb WIG CAUSE | brush WIG N) ;}"
    private static void lineOfTheLoans() {
        WornWigs x = Checks.bench(8, 10, 1);
        CHECK.dueText(x, 2, "", 0);
        CHECK.dueText(x, 2, "in 0 wig 7 on 9;in 0 off 7;in 0 comb 7 7;in 0 brush 7 99;", 4);
        String[] cut = {"in", "in 0", "in 0 wig", "in 0 wig 0", "in 0 wig 0 on", "in 0 wig 0 on 0", "in 0 off",
            "in 0 off 0", "in 0 comb", "in 0 comb 0", "in 0 comb 0 0", "in 0 brush", "in 0 brush 0", "in 0 brush 0 1"};
        for (String text : cut) {
            CHECK.dueFault(x, 2, text, 1, text.length());
            CHECK.dueFault(x, 2, text + " in", 1, text.length() + 1);
        }
        String[] cutShort = {"in", "in 0", "in 0 wig", "in 0 wig 0", "in 0 wig 0 on", "in 0 off", "in 0 comb",
            "in 0 comb 0", "in 0 brush", "in 0 brush 0"};
        for (String text : cutShort) {
            CHECK.dueFault(x, 2, text + ";", 1, text.length());
        }
        CHECK.dueFault(x, 2, "in 0 case 0 before 0;", 1, 5);
        CHECK.dueFault(x, 2, "in 0 on 0;", 1, 5);
        CHECK.dueFault(x, 2, "in 0 wig 0 of 1;", 1, 11);
        CHECK.dueFault(x, 2, "in 0 off 0 on 0;", 1, 11);
        CHECK.dueFault(x, 2, "in 0 off 0 0;", 1, 11);
        CHECK.dueFault(x, 2, "in 0 comb 0 0 0;", 1, 14);
        CHECK.dueFault(x, 2, "wig 0 on 0;", 1, 0);
    }

    // Promise 13, terms: "(N 1 .. 99.) (YEARS 0 .. 999.)"
    private static void numbersBeyondTheirBounds() {
        WornWigs x = Checks.bench(1, 1, 1);
        CHECK.dueText(x, 2, "in 0 brush 0 1;in 999 brush 0 99;", 2);
        CHECK.dueFault(x, 2, "in 0 brush 0 0;", 2, 13);
        CHECK.dueFault(x, 2, "in 0 brush 0 100;", 2, 13);
        CHECK.dueFault(x, 2, "in 0 brush 0 9999;", 2, 13);
        CHECK.dueFault(x, 2, "in 1000 off 0;", 2, 3);
        CHECK.dueFault(x, 2, "in 9999 off 0;", 2, 3);
        CHECK.dueText(x, 1, "in 0 case 0 before 0;in 999 case 0 before 0;", 2);
        CHECK.dueFault(x, 1, "in 1000 case 0 before 0;", 2, 3);
    }

    // Promise 13, terms: "3 KIN = {wig WIG of WIG ;}"
    private static void lineOfKin() {
        WornWigs x = Checks.bench(8, 1, 1);
        CHECK.dueText(x, 3, "", 0);
        CHECK.dueText(x, 3, "wig 0 of 7;wig 7 of 0;", 2);
        String[] cut = {"wig", "wig 0", "wig 0 of", "wig 0 of 1"};
        for (String text : cut) {
            CHECK.dueFault(x, 3, text, 1, text.length());
            CHECK.dueFault(x, 3, text + " wig", 1, text.length() + 1);
            if (!text.endsWith("of 1")) {
                CHECK.dueFault(x, 3, text + ";", 1, text.length());
            }
        }
        CHECK.dueFault(x, 3, "of 1;", 1, 0);
        CHECK.dueFault(x, 3, "wig 0 on 1;", 1, 6);
        CHECK.dueFault(x, 3, "wig 0 of 1 of 2;", 1, 11);
        CHECK.dueFault(x, 3, "in 0 wig 0 on 0;", 1, 0);
    }

    // Promise 13, terms: "(which was made after which; unlike; of several lines of one the first.)"
    private static void kinAreUnlikeAndTheFirstLineCounts() {
        WornWigs x = Checks.bench(8, 0, 0);
        CHECK.dueFault(x, 3, "wig 7 of 7;", 2, 9);
        CHECK.dueFault(x, 3, "wig 0 of 00;", 2, 9);
        CHECK.dueText(x, 3, "wig 2 of 5;wig 2 of 6;wig 2 of 5;", 3);
        CHECK.due("of several the first", 5, x.kin(2, -1));
        CHECK.dueText(x, 3, "wig 2 of 6;wig 2 of 5;", 2);
        CHECK.due("of several the first", 6, x.kin(2, -1));
        CHECK.due("the other is of none", 5, x.kin(5, -1));
        CHECK.dueText(x, 3, "wig 0 of 1;".repeat(15) + "wig 6 of 7;", 16);
        CHECK.due("the sixteenth line counts", 7, x.kin(6, -1));
    }

    // Promise 13, terms: "16 lines of each at most."
    // Promise 13, terms: "3 (at its KEYWORD) the 17th line of a text;"
    private static void seventeenthLine() {
        WornWigs x = Checks.bench(2, 1, 1);
        String[] lines = {"dies 1;", "in 1 case 0 before 0;", "in 1 off 0;", "wig 0 of 1;"};
        String[] keywords = {"moth", "in", "in", "wig"};
        for (int k = 0; k < 4; k++) {
            String full = lines[k].repeat(16);
            int end = full.length();
            CHECK.dueText(x, k, full, 16);
            CHECK.dueFault(x, k, full + lines[k], 3, end);
            CHECK.dueFault(x, k, full + " \n" + lines[k], 3, end + 2);
            CHECK.dueFault(x, k, full + keywords[k], 3, end);
            CHECK.dueFault(x, k, full + ";", 1, end);
            CHECK.dueFault(x, k, full + " before", 1, end + 1);
            CHECK.dueFault(x, k, full + "7", 1, end);
            CHECK.due("as it was", 16, x.look(8 + k));
        }
    }

    // Promise 13, terms: "TOKENS: letters as many as stand together are KEYWORDS (those told here for that text) or
    // none;"
    private static void lettersThatStandTogether() {
        lawFault("mot 1;", 1, 0);
        lawFault("mothmoth 1;", 1, 0);
        lawFault("moths 1;", 1, 0);
        lawFault("Moth 1;", 1, 0);
        lawFault("MOTH 1;", 1, 0);
        lawFault("motH 1;", 1, 0);
        lawFault("m oth 1;", 1, 0);
        lawFault("moth ageZ;", 1, 5);
        lawFault("moth zage;", 1, 5);
        lawFault("moth whenage;", 1, 5);
        lawFault("moth 1 when notage=1;", 1, 12);
        lawFault("in 0 off 0;", 1, 0);
        CHECK.due("no blank is needed beside a number or a sign", 3, moth("moth3when(1=1)and not(1=2);"));
    }

    // Promise 13, terms: "digits as many as stand together NUMBERS of 1 to 4 digits or none;"
    private static void digitsThatStandTogether() {
        CHECK.due("one digit", 0, moth("moth 0;"));
        CHECK.due("four digits", 99, moth("moth 9999;"));
        CHECK.due("four digits", 7, moth("moth 0007;"));
        CHECK.due("the greatest", 1, moth("moth 1 when 9999>9998; moth 2;"));
        lawFault("moth 00000;", 1, 5);
        lawFault("moth 10000;", 1, 5);
        lawFault("moth 99999999999999999999;", 1, 5);
        lawFault("moth 1/00000;", 1, 7);
        lawFault("moth 12 34;", 1, 8);
        WornWigs x = Checks.bench(1, 1, 1);
        CHECK.dueFault(x, 1, "in 00000 case 0 before 0;", 1, 3);
        CHECK.dueText(x, 1, "in 0000 case 0000 before 0000;", 1);
    }

    // Promise 13, terms: "; + - * / ( ) < = > . Blanks (32, 10) between."
    private static void onlyTheseSignsAndBlanks() {
        CHECK.due("blanks", 3, moth(" \n moth\n3 \n when\n(\n1 < 2 ) \n; \n\n"));
        for (int b = 0; b < 256; b++) {
            boolean isBlank = b == 32 || b == 10;
            boolean isLetterOrDigit = b >= 'a' && b <= 'z' || b >= 'A' && b <= 'Z' || b >= '0' && b <= '9';
            if (isBlank) {
                CHECK.due("a blank", 3, moth("moth" + (char) b + "3;"));
            } else if ("+-*/".indexOf(b) >= 0) {
                CHECK.due("a sign", 1, moth("moth 1 when 3" + (char) b + "1<99;"));
            } else if (b == ';') {
                lawFault("moth 3 ;;", 1, 8);
            } else if (!isLetterOrDigit) {
                lawFault("moth 3 " + (char) b + ";", 1, 7);
                lawFault("moth " + (char) b + ";", 1, 5);
                lawFault("moth 3;" + (char) b, 1, 7);
            }
        }
    }

    // Promise 13, terms: "Ints, which wrap; / goes towards 0."
    private static void lawWrapsAndDividesTowardsNought() {
        dueWhen("9999*9999*22<0", true);
        // 65536 times 65536 is 0, 32768 times 65536 the least of all.
        dueWhen("256*256*256*256=0", true);
        dueWhen("256*256*256*128<0", true);
        dueWhen("256*256*256*128-1>0", true);
        dueWhen("256*256*256*128-1+1<0", true);
        CHECK.due("0-7 by 2 is 0-3", 7, moth("moth 10 - 7/2;"));
        WornWigs x = Checks.bench(1, 1, 0);
        x.rule(0, 0, 1, 1);
        int[][] due = {{-9, 4, -2}, {-8, 4, -2}, {-7, 4, -1}, {-1, 9, 0}, {-9, 9999, 0}, {9, 4, 2}, {-9, 1, -9}};
        for (int[] d : due) {
            x.set(1, 0, d[0]);
            CHECK.dueText(x, 0, "counts 50 + mind / " + d[1] + ";", 1);
            CHECK.due(d[0] + " by " + d[1], 50 + d[2], x.ruleOf(0, 0, 10));
        }
    }

    // Promise 13, terms: "FAULTS, the first by its place, at one place the least:"
    private static void firstFaultByItsPlace() {
        lawFault("moth 1/0 + ;", 2, 7);
        lawFault("moth + 1/0;", 1, 5);
        lawFault("moth 1/0; moth 12345;", 2, 7);
        lawFault("moth 1; moth 12345 / 0;", 1, 13);
        lawFault("moth 1/0 when (((((((((1=1;", 2, 7);
        lawFault("moth 1 when (((((((((1/0=1;", 3, 20);
        WornWigs x = Checks.bench(1, 1, 1);
        CHECK.dueFault(x, 1, "in 1000 case 1 before 1;", 2, 3);
        CHECK.dueFault(x, 1, "in 0 case 1 before;", 2, 10);
        CHECK.dueFault(x, 1, "in 0 before case 1;", 1, 5);
        CHECK.dueFault(x, 2, "in 0 wig 1 on 1;", 2, 9);
        CHECK.dueFault(x, 3, "wig 1 of 1;", 2, 4);
    }

    // Promise 13, terms: "1 what can't stand there (the end: the text's length)."
    private static void endOfTheTextIsItsLength() {
        lawFault("moth", 1, 4);
        lawFault("moth ", 1, 5);
        lawFault("moth 1 \n ", 1, 9);
        lawFault("moth 1; moth 1", 1, 14);
        String full = "moth 1" + " ".repeat(394);
        lawFault(full, 1, 400);
        lawFault(" ".repeat(399) + "x", 1, 399);
        lawFault(" ".repeat(396) + "moth", 1, 400);
        CHECK.due("as long as can be", 1, moth(" ".repeat(393) + "moth 1;"));
        CHECK.due("as long as can be", 7, moth("moth 7" + "*1".repeat(196) + " ;"));
    }

    // Promise 13, terms: "2 (at the NUMBER) a part by 0; one beyond its bounds;"
    private static void partsByNought() {
        lawFault("moth 1/0;", 2, 7);
        lawFault("moth 1 / 0000;", 2, 9);
        lawFault("moth 1/1/0;", 2, 9);
        lawFault("moth 1 when 1/0=1;", 2, 14);
        lawFault("moth 1 when 1=1/0;", 2, 16);
        CHECK.due("by 1", 8, moth("moth 8/1;"));
        CHECK.due("by 9999", 0, moth("moth 9998/9999;"));
        CHECK.due("by 9999", 1, moth("moth 9999/9999;"));
        CHECK.due("0 times 0 by 1", 0, moth("moth 0*0/1;"));
    }

    // Promise 13, terms: "a WIG, a JUDGE, a CASE that there is not;"
    private static void whoIsNotThere() {
        WornWigs x = Checks.bench(0, 0, 0);
        CHECK.dueFault(x, 1, "in 0 case 0 before 0;", 2, 10);
        CHECK.dueFault(x, 2, "in 0 off 0;", 2, 9);
        CHECK.dueFault(x, 2, "in 0 wig 0 on 0;", 2, 9);
        CHECK.dueFault(x, 2, "in 0 comb 0 0;", 2, 10);
        CHECK.dueFault(x, 2, "in 0 brush 0 1;", 2, 11);
        CHECK.dueFault(x, 3, "wig 0 of 0;", 2, 4);
        WornWigs y = Checks.bench(8, 10, 14);
        CHECK.dueText(y, 1, "in 0 case 13 before 9;", 1);
        CHECK.dueFault(y, 1, "in 0 case 14 before 9;", 2, 10);
        CHECK.dueFault(y, 1, "in 0 case 13 before 10;", 2, 20);
        CHECK.dueText(y, 2, "in 0 wig 7 on 9;", 1);
        CHECK.dueFault(y, 2, "in 0 wig 8 on 9;", 2, 9);
        CHECK.dueFault(y, 2, "in 0 wig 7 on 10;", 2, 14);
        CHECK.dueFault(y, 2, "in 0 off 8;", 2, 9);
        CHECK.dueFault(y, 2, "in 0 comb 8 0;", 2, 10);
        CHECK.dueFault(y, 2, "in 0 comb 7 8;", 2, 12);
        CHECK.dueFault(y, 2, "in 0 brush 8 1;", 2, 11);
        CHECK.dueText(y, 3, "wig 7 of 0;", 1);
        CHECK.dueFault(y, 3, "wig 8 of 0;", 2, 4);
        CHECK.dueFault(y, 3, "wig 7 of 8;", 2, 9);
    }

    // Promise 13, terms: "a WIG, a JUDGE, a CASE that there is not;"
    private static void theDeadAndTheTriedAreThere() {
        WornWigs x = Checks.bench(1, 2, 1);
        x.tries(0, 0);
        Checks.kill(x, 1);
        CHECK.dueText(x, 1, "in 0 case 0 before 1;", 1);
        CHECK.dueText(x, 2, "in 0 wig 0 on 1;", 1);
    }

    // Promise 13, terms: "the same WIG again (of KIN)."
    private static void sameWigAgain() {
        WornWigs x = Checks.bench(2, 0, 0);
        CHECK.dueFault(x, 3, "wig 0 of 0;", 2, 9);
        CHECK.dueFault(x, 3, "wig 1 of 0; wig 1 of 1;", 2, 21);
        CHECK.dueText(x, 3, "wig 1 of 0; wig 1 of 0; wig 0 of 1;", 3);
    }

    // Promise 13, terms: "(at it) the 9th ( or not that is open."
    private static void ninthThatIsOpen() {
        dueWhen("((((((((1=1))))))))", true);
        dueWhen("not not not not not not not not 1=1", true);
        dueWhen("not(not(not(not(1=1))))", true);
        lawFault("moth 1 when (((((((((1=1)))))))));", 3, 20);
        lawFault("moth 1 when not not not not not not not not not 1=1;", 3, 44);
        lawFault("moth 1 when not(not(not(not(not 1=1))));", 3, 28);
        lawFault("moth 1 when not(not(not(not((1=1)))));", 3, 28);
        lawFault("moth 1 when ((((((((not 1=1))))))));", 3, 20);
        lawFault("moth 1 when (((((((((", 3, 20);
    }

    // Promise 13, terms: "(at it) the 9th ( or not that is open."
    private static void whatIsClosedIsNotOpen() {
        dueWhen("(1=1) and (1=1) and (1=1) and (1=1) and (1=1) and (1=1) and (1=1) and (1=1) and (1=1)", true);
        dueWhen("not 1=2 and not 1=2 and not 1=2 and not 1=2 and not 1=2 and not 1=2 and not 1=2 and not 1=2 and not 1=2",
                true);
        dueWhen("(((((((not 1=1 or (1=1)) or not 1=1)))))) and ((((((((1=1))))))))", true);
        dueWhen("not (not (not 1=2)) and not (not (not (not (1=2))))", false);
        lawFault("moth 1 when (((((((not 1=1 or ((1=1;", 3, 31);
        lawFault("moth 1 when (((((((1=1) or ((1=1;", 1, 32);
        lawFault("moth 1 when (((((((1=1) or (((1=1;", 3, 29);
        CHECK.due("each line opens anew", 1, moth("moth 2 when ((((((((1=2)))))))); moth 1 when ((((((((1=1))))))));"));
    }

    // Promise 13, terms: "(at it) the 9th ( or not that is open."
    private static void asDeepAsCanBe() {
        String level = "1=2 or 1=1 and (";
        String deep = level.repeat(8) + "1=2 or 1=1 and 1+2*3<2+3*4" + ")".repeat(8);
        dueWhen(deep, true);
        dueWhen(deep.replace('<', '>'), false);
        dueWhen("not " + "1=2 or not (".repeat(3) + "1=2 or 1=1 and not 1+2*3<2+3*4" + ")".repeat(3), true);
    }

    // Promise 13, terms: "What THE LAW tells for a word: E of the first line with that word whose B is so, or that has
    // none"
    private static void firstLineThatIsSo() {
        CHECK.due("the first without when", 3, moth("moth 3; moth 4;"));
        CHECK.due("the first that is so", 4, moth("moth 3 when 1=2; moth 4 when 1=1; moth 5;"));
        CHECK.due("one without when", 5, moth("moth 3 when 1=2; moth 4 when 1=2; moth 5; moth 6;"));
        CHECK.due("only of that word", 5, moth("dies 3; counts 4; moth 5;"));
        CHECK.due("the sixteenth line", 16, moth("moth 9 when 1=2;".repeat(15) + "moth 16;"));
    }

    // Promise 13, terms: "(none: counts: weight, moth: 1 and itch by 9, dies: age above 60 times 9, else 0),"
    private static void whereNoLineIsSo() {
        WornWigs x = Checks.bench(1, 1, 0);
        x.rule(0, 0, 1, 1);
        x.rule(0, 1, 1, 99);
        String[] laws = {"", "counts 5 when 1=2; moth 5 when 1=2; dies 5 when 1=2;"};
        int[][] ages = {{0, 0}, {59, 0}, {60, 0}, {61, 9}, {62, 18}, {120, 540}};
        for (String law : laws) {
            Checks.text(x, 0, law);
            CHECK.due("counts of weight 1", 1, x.ruleOf(0, 0, 10));
            CHECK.due("counts of weight 99", 99, x.ruleOf(0, 1, 10));
            for (int[] a : ages) {
                x.set(0, 0, a[0]);
                CHECK.due("dies at " + a[0], a[1], x.who(0, 5));
            }
        }
        CHECK.due("moth without itch", 1, x.of(0, 6));
        x.rule(0, 0, -1, 1);
        CHECK.due("moth of itch 9", 2, x.of(0, 6));
        for (int i = 0; i < 4; i++) {
            x.rule(0, 0, -1, 1);
        }
        x.rule(0, 0, 1, 1);
        CHECK.due("itch", 90, x.of(0, 2));
        CHECK.due("moth of itch 90", 11, x.of(0, 6));
        WornWigs y = Checks.bench(1, 0, 0);
        for (int i = 0; i < 8; i++) {
            y.rule(0, 0, i % 2 == 0 ? 1 : -1, 1);
        }
        CHECK.due("moth of itch 99", 12, y.of(0, 6));
    }

    // Promise 13, terms: "counts held to 0 .. 99, moth to 0 .. 99, dies to 0 .. 1000."
    private static void whatTheLawTellsIsHeld() {
        WornWigs x = Checks.bench(1, 1, 0);
        x.rule(0, 0, 1, 50);
        String[] told = {"0-9999", "0-1", "0", "1", "98", "99", "100", "999", "1000", "1001", "9999*9999"};
        int[] to99 = {0, 0, 0, 1, 98, 99, 99, 99, 99, 99, 99};
        int[] to1000 = {0, 0, 0, 1, 98, 99, 100, 999, 1000, 1000, 1000};
        for (int i = 0; i < told.length; i++) {
            Checks.text(x, 0, "counts " + told[i] + "; moth " + told[i] + "; dies " + told[i] + ";");
            CHECK.due("counts " + told[i], to99[i], x.ruleOf(0, 0, 10));
            CHECK.due("moth " + told[i], to99[i], x.of(0, 6));
            CHECK.due("dies " + told[i], to1000[i], x.who(0, 5));
        }
    }

    private static WornWigs askedBench() {
        WornWigs x = Checks.bench(0, 0, 2);
        x.wig(1, 61);
        x.wig(2, 62);
        x.judge(41, -4);
        x.judge(42, 5);
        x.judge(43, 6);
        x.rule(1, 5, 1, 21);
        x.rule(1, 6, -2, 22);
        x.rule(1, 6, 2, 23);
        x.act(0, 1, 0);
        x.act(0, 1, 1);
        x.tries(0, 1);
        x.tries(1, 0);
        return x;
    }

    private static final String[] ASKED = {"age", "mind", "colour", "hair", "itch", "lent", "cause", "weight", "tried",
        "year"};

    // Promise 13, terms: "counts of a RULE in a WIG on a JUDGE: all of them: age, mind, tried: the JUDGE's; colour,
    // hair, itch, lent: the WIG's; cause, weight: the RULE's; year: YEAR."
    private static void countsAsksAll() {
        WornWigs x = askedBench();
        int[] onWearer = {42, 5, 2, 62, 9, 2, 6, 22, 1, 0};
        int[] onAnother = {43, 6, 2, 62, 9, 2, 6, 22, 0, 0};
        for (int i = 0; i < 10; i++) {
            Checks.text(x, 0, "counts " + ASKED[i] + " + 9;");
            CHECK.due("counts " + ASKED[i], onWearer[i] + 9, x.ruleOf(1, 1, 11));
            CHECK.due("on one who does not wear it " + ASKED[i], onAnother[i] + 9, x.ruleOf(1, 1, 12));
        }
        Checks.text(x, 0, "counts mind + 50;");
        CHECK.due("a mind below 0", 46, x.ruleOf(1, 1, 10));
        Checks.text(x, 0, "counts year; dies 0; moth 0;");
        x.years(60);
        CHECK.due("year 60", 60, x.ruleOf(1, 0, 11));
    }

    // Promise 13, terms: "moth of a WIG (of nobody: age, mind, tried 0; cause, weight 0)."
    private static void mothAsksNobody() {
        WornWigs x = askedBench();
        int[] due = {0, 0, 2, 62, 9, 2, 0, 0, 0, 0};
        for (int i = 0; i < 10; i++) {
            Checks.text(x, 0, "moth " + ASKED[i] + " + 9;");
            // What was asked ahead of it leaves nothing behind.
            x.ruleOf(1, 1, 11);
            x.who(1, 5);
            CHECK.due("moth " + ASKED[i], due[i] + 9, x.of(1, 6));
        }
        Checks.text(x, 0, "moth year;");
        x.years(1);
        CHECK.due("year 1", 1, x.of(1, 6));
    }

    // Promise 13, terms: "dies of a JUDGE (colour, hair, itch, lent of his WIG, without one 0; cause, weight 0)."
    private static void diesAsksHisWig() {
        WornWigs x = askedBench();
        int[] worn = {42, 5, 2, 62, 9, 2, 0, 0, 1, 0};
        int[] bare = {43, 6, 0, 0, 0, 0, 0, 0, 0, 0};
        for (int i = 0; i < 10; i++) {
            Checks.text(x, 0, "dies " + ASKED[i] + " + 9;");
            x.ruleOf(1, 1, 11);
            CHECK.due("dies " + ASKED[i], worn[i] + 9, x.who(1, 5));
            x.of(1, 6);
            CHECK.due("without a wig " + ASKED[i], bare[i] + 9, x.who(2, 5));
        }
        Checks.text(x, 0, "dies year;");
        x.state(0);
        x.years(1);
        CHECK.due("year 1", 1, x.who(1, 5));
    }
}
