/** Promises 11 to 14: the TAPE, the TEXTS, their FAULTS, and what THE LAW tells. */
public final class TextsTest {
    private static final Checks CHECK = new Checks();

    public static void main(String[] args) {
        tapeIsFed();
        tapeIsEnded();
        tapeIsEmptyThen();
        noSuchText();
        textIsReplacedOnlyWithoutFault();
        tokens();
        lawThatCannotStand();
        partsByNought();
        seventeenthLine();
        ninthOpen();
        docketFaults();
        loanFaults();
        kinFaults();
        lawReckons();
        lawDecides();
        lawAsks();
        lawIsHeld();
        lawGoesDeep();
        CHECK.end();
    }

    private static String times(int n, String text) {
        return text.repeat(n);
    }

    private static void tapeIsFed() {
        WornWigs x = new WornWigs();
        for (int i = 1; i <= 20; i++) {
            CHECK.due("feed " + i, 20 * i, x.feed(0, 0, 0, 0, 0));
        }
        CHECK.due("more than 400", -1, x.feed(0, 0, 0, 0, 0));
        CHECK.due("end(381)", true, x.end(381));
        CHECK.due("401", -1, x.feed(0, 0, 0, 0, 0));
        CHECK.due("nothing came", false, x.end(382));
        CHECK.due("end(380)", true, x.end(380));
        CHECK.due("400", 400, x.feed(0, 0, 0, 0, 0));
        WornWigs y = new WornWigs();
        y.feed(('m' << 24) | ('o' << 16) | ('t' << 8) | 'h', (' ' << 24) | ('7' << 16) | (';' << 8) | 0xff, -1, -1, -1);
        CHECK.due("end(7)", true, y.end(7));
        CHECK.due("the highest first", 1, y.text(0));
    }

    private static void tapeIsEnded() {
        WornWigs x = new WornWigs();
        CHECK.due("end(0)", true, x.end(0));
        CHECK.due("end(1)", false, x.end(1));
        CHECK.due("end(-1)", false, x.end(-1));
        x.feed(0, 0, 0, 0, 0);
        CHECK.due("end(21)", false, x.end(21));
        CHECK.due("end(min)", false, x.end(Integer.MIN_VALUE));
        CHECK.due("end(20)", true, x.end(20));
        CHECK.due("end(3)", true, x.end(3));
        CHECK.due("feed", 23, x.feed(0, 0, 0, 0, 0));
    }

    private static void tapeIsEmptyThen() {
        WornWigs x = new WornWigs();
        Checks.tape(x, "moth 1;");
        CHECK.due("text", 1, x.text(0));
        CHECK.due("empty", false, x.end(1));
        Checks.tape(x, "moth;");
        CHECK.due("text with a fault", -1, x.text(0));
        CHECK.due("empty", false, x.end(1));
        CHECK.due("an empty text", 0, x.text(0));
        CHECK.due("no law", 0, x.look(8));
    }

    private static void noSuchText() {
        WornWigs x = new WornWigs();
        CHECK.dueFault(x, 0, "moth;", 1, 4);
        int[] none = {4, -1, Integer.MIN_VALUE, Integer.MAX_VALUE};
        for (int k : none) {
            Checks.tape(x, "moth 1;");
            CHECK.due("text(" + k + ")", -1, x.text(k));
            CHECK.due("fault(0)", 0, x.fault(0));
            CHECK.due("fault(1)", -1, x.fault(1));
        }
        CHECK.dueFault(x, 0, "moth;", 1, 4);
        CHECK.due("fault(2)", -1, x.fault(2));
        CHECK.due("fault(-1)", -1, x.fault(-1));
    }

    private static void textIsReplacedOnlyWithoutFault() {
        WornWigs x = new WornWigs();
        x.wig(0, 5);
        x.wig(0, 5);
        CHECK.dueText(x, 0, "moth 5; moth 6;", 2);
        CHECK.dueFault(x, 0, "moth 7; moth 8; moth 9", 1, 22);
        CHECK.due("lines", 2, x.look(8));
        CHECK.due("moth", 5, x.of(0, 6));
        CHECK.dueText(x, 3, "wig 0 of 1;", 1);
        CHECK.dueFault(x, 3, "wig 1 of 0; wig", 1, 15);
        CHECK.due("lines", 1, x.look(11));
        CHECK.due("kin", 1, x.kin(0, -1));
        CHECK.dueText(x, 2, "in 5 off 0;in 5 off 1;", 2);
        CHECK.dueFault(x, 2, "in 6 off 0;in 5 off", 1, 19);
        CHECK.due("lines", 2, x.look(10));
        CHECK.dueText(x, 0, " \n ", 0);
        CHECK.due("lines", 0, x.look(8));
        CHECK.due("moth", 1, x.of(0, 6));
    }

    private static void tokens() {
        WornWigs x = new WornWigs();
        x.wig(0, 5);
        CHECK.dueText(x, 0, "  moth\n0007when 1<2and 3 > 2or 1=1 ;  ", 1);
        CHECK.due("moth", 7, x.of(0, 6));
        CHECK.dueText(x, 0, "moth 1+2*3-4/2;moth 9999;", 2);
        CHECK.dueFault(x, 0, "moth 10000;", 1, 5);
        CHECK.dueFault(x, 0, "moth 00001;", 1, 5);
        CHECK.dueFault(x, 0, "mothy 1;", 1, 0);
        CHECK.dueFault(x, 0, "mothX 1;", 1, 0);
        CHECK.dueFault(x, 0, "Moth 1;", 1, 0);
        CHECK.dueFault(x, 0, "moth1;moth ageage;", 1, 11);
        CHECK.dueFault(x, 0, "moth 1;\tmoth 2;", 1, 7);
        CHECK.dueFault(x, 0, "moth 1;\rmoth 2;", 1, 7);
        CHECK.dueFault(x, 0, "moth 1.;", 1, 6);
        CHECK.dueFault(x, 0, "moth 1" + (char) 233 + ";", 1, 6);
        CHECK.dueFault(x, 0, "moth age" + (char) 233 + ";", 1, 8);
        for (int b = 0; b < 10; b++) {
            CHECK.dueFault(x, 0, "moth " + (char) b + ";", 1, 5);
            CHECK.dueFault(x, 0, "moth 1;" + (char) b, 1, 7);
        }
        CHECK.dueFault(x, 0, "moth in;", 1, 5);
        CHECK.dueFault(x, 0, "moth 1", 1, 6);
        CHECK.dueFault(x, 0, "moth 1   ", 1, 9);
        CHECK.dueText(x, 0, times(57, "moth 1;").substring(0, 16 * 7) + times(288, " "), 16);
    }

    private static void lawThatCannotStand() {
        WornWigs x = new WornWigs();
        CHECK.dueFault(x, 0, ";", 1, 0);
        CHECK.dueFault(x, 0, "1;", 1, 0);
        CHECK.dueFault(x, 0, "moth 1;;", 1, 7);
        CHECK.dueFault(x, 0, "moth -1;", 1, 5);
        CHECK.dueFault(x, 0, "moth counts;", 1, 5);
        CHECK.dueFault(x, 0, "moth moth;", 1, 5);
        CHECK.dueFault(x, 0, "moth 1+dies;", 1, 7);
        CHECK.dueFault(x, 0, "moth (1);", 1, 5);
        CHECK.dueFault(x, 0, "moth 1 2;", 1, 7);
        CHECK.dueFault(x, 0, "moth 1+;", 1, 7);
        CHECK.dueFault(x, 0, "moth 1*;", 1, 7);
        CHECK.dueFault(x, 0, "moth 1/age;", 1, 7);
        CHECK.dueFault(x, 0, "moth 1 when;", 1, 11);
        CHECK.dueFault(x, 0, "moth 1 when 1;", 1, 13);
        CHECK.dueFault(x, 0, "moth 1 when 1<;", 1, 14);
        CHECK.dueFault(x, 0, "moth 1 when 1<2<3;", 1, 15);
        CHECK.dueFault(x, 0, "moth 1 when 1<2 and;", 1, 19);
        CHECK.dueFault(x, 0, "moth 1 when 1<2 or or 1<2;", 1, 19);
        CHECK.dueFault(x, 0, "moth 1 when 1<2 not 1<2;", 1, 16);
        CHECK.dueFault(x, 0, "moth 1 when (1<2;", 1, 16);
        CHECK.dueFault(x, 0, "moth 1 when 1<2);", 1, 15);
        CHECK.dueFault(x, 0, "moth 1 when (1<2));", 1, 17);
        CHECK.dueFault(x, 0, "moth 1 when ();", 1, 13);
        CHECK.dueFault(x, 0, "moth 1 when (1)<2;", 1, 14);
        CHECK.dueFault(x, 0, "moth 1 when not;", 1, 15);
        CHECK.dueFault(x, 0, "moth 1 when not (1<2", 1, 20);
        CHECK.dueFault(x, 0, "moth 1 when (not 1<2) and (1<2 or 1<2;", 1, 37);
        CHECK.dueFault(x, 0, "moth 1 when 1<2 when 1<2;", 1, 16);
        CHECK.dueFault(x, 0, "when 1<2;", 1, 0);
    }

    private static void partsByNought() {
        WornWigs x = new WornWigs();
        CHECK.dueFault(x, 0, "moth 8/0;", 2, 7);
        CHECK.dueFault(x, 0, "moth 8 / 0000 ;", 2, 9);
        CHECK.dueFault(x, 0, "moth 8/00000;", 1, 7);
        CHECK.dueFault(x, 0, "moth 1 when 8/0<2;", 2, 14);
        CHECK.dueFault(x, 0, "moth 8/0 +;", 2, 7);
        CHECK.dueFault(x, 0, "moth + 8/0;", 1, 5);
        CHECK.dueText(x, 0, "moth 8*0/1;", 1);
    }

    private static void seventeenthLine() {
        WornWigs x = new WornWigs();
        x.wig(0, 1);
        x.wig(0, 1);
        x.judge(1, 1);
        x.trial(1, 1);
        String[] lines = {"dies 1;", "in 1 case 0 before 0;", "in 1 off 0;", "wig 0 of 1;"};
        for (int k = 0; k < 4; k++) {
            CHECK.dueText(x, k, times(16, lines[k]), 16);
            CHECK.due("lines of " + k, 16, x.look(8 + k));
            CHECK.dueFault(x, k, times(17, lines[k]), 3, 16 * lines[k].length());
            CHECK.dueFault(x, k, times(16, lines[k]) + "; ", 1, 16 * lines[k].length());
            CHECK.dueFault(x, k, times(16, lines[k]) + "  off", 1, 16 * lines[k].length() + 2);
        }
    }

    private static void ninthOpen() {
        WornWigs x = new WornWigs();
        CHECK.dueText(x, 0, "moth 1 when " + times(8, "(") + "1=1" + times(8, ")") + ";", 1);
        CHECK.dueFault(x, 0, "moth 1 when " + times(9, "(") + "1=1" + times(9, ")") + ";", 3, 20);
        CHECK.dueText(x, 0, "moth 1 when " + times(8, "not ") + "1=1;", 1);
        CHECK.dueFault(x, 0, "moth 1 when " + times(9, "not ") + "1=1;", 3, 44);
        CHECK.dueText(x, 0, "moth 1 when " + times(4, "not(") + "1=1" + times(4, ")") + ";", 1);
        CHECK.dueFault(x, 0, "moth 1 when " + times(4, "not(") + "not(1=1" + times(5, ")") + ";", 3, 28);
        CHECK.dueText(x, 0, "moth 1 when " + times(7, "(") + "not 1=1 and not 1=1" + times(7, ")")
                + " or " + times(8, "not ") + "1=1;", 1);
        CHECK.dueFault(x, 0, "moth 1 when " + times(7, "(") + "not(1=1) or not 1=1", 3, 22);
        CHECK.dueFault(x, 0, "moth 1 when 1=1 " + times(9, "("), 1, 16);
        CHECK.dueText(x, 0, "moth 1 when " + times(8, "(") + "1=1" + times(8, ")") + ";moth 1 when not (1=1);", 2);
    }

    private static void docketFaults() {
        WornWigs x = new WornWigs();
        CHECK.dueFault(x, 1, "in 0 case 0 before 0;", 2, 10);
        x.judge(1, 1);
        x.trial(0, 1);
        x.trial(0, 1);
        CHECK.dueText(x, 1, "in 0 case 1 before 0;in 999 case 0 before 0;", 2);
        CHECK.dueFault(x, 1, "in 1000 case 0 before 0;", 2, 3);
        CHECK.dueFault(x, 1, "in 0 case 2 before 0;", 2, 10);
        CHECK.dueFault(x, 1, "in 0 case 1 before 1;", 2, 19);
        CHECK.dueFault(x, 1, "in case 1 before 1;", 1, 3);
        CHECK.dueFault(x, 1, "in 0 wig 0 on 0;", 1, 5);
        CHECK.dueFault(x, 1, "in 0 case 0 before 0", 1, 20);
        CHECK.dueFault(x, 1, "in 0 case 0 before;", 1, 18);
        CHECK.dueFault(x, 1, "in 0 case 0 0;", 1, 12);
        CHECK.dueFault(x, 1, "case 0 before 0;", 1, 0);
        CHECK.dueFault(x, 1, "in 0 case 2 before before", 2, 10);
        CHECK.dueFault(x, 1, "in age case 0 before 0;", 1, 3);
    }

    private static void loanFaults() {
        WornWigs x = new WornWigs();
        x.wig(0, 1);
        x.wig(0, 1);
        x.judge(1, 1);
        CHECK.dueText(x, 2, "in 0 wig 1 on 0;in 999 off 1;in 3 comb 1 7;in 2 brush 0 99;in 2 brush 0 1;in 3 comb 0 0;", 6);
        CHECK.dueFault(x, 2, "in 1000 off 0;", 2, 3);
        CHECK.dueFault(x, 2, "in 0 wig 2 on 0;", 2, 9);
        CHECK.dueFault(x, 2, "in 0 wig 0 on 1;", 2, 14);
        CHECK.dueFault(x, 2, "in 0 wig 0 off 1;", 1, 11);
        CHECK.dueFault(x, 2, "in 0 off 2;", 2, 9);
        CHECK.dueFault(x, 2, "in 0 off 0 1;", 1, 11);
        CHECK.dueFault(x, 2, "in 0 comb 2 0;", 2, 10);
        CHECK.dueFault(x, 2, "in 0 comb 0 8;", 2, 12);
        CHECK.dueFault(x, 2, "in 0 comb 0;", 1, 11);
        CHECK.dueFault(x, 2, "in 0 brush 2 1;", 2, 11);
        CHECK.dueFault(x, 2, "in 0 brush 0 0;", 2, 13);
        CHECK.dueFault(x, 2, "in 0 brush 0 100;", 2, 13);
        CHECK.dueFault(x, 2, "in 0 on 0 0;", 1, 5);
        CHECK.dueFault(x, 2, "in 0 case 0 before 0;", 1, 5);
        CHECK.dueFault(x, 2, "in 0 off 0", 1, 10);
    }

    private static void kinFaults() {
        WornWigs x = new WornWigs();
        x.wig(0, 1);
        x.wig(0, 1);
        CHECK.dueText(x, 3, "wig 0 of 1;wig 0 of 1;wig 1 of 0;", 3);
        CHECK.dueFault(x, 3, "wig 0 of 0;", 2, 9);
        CHECK.dueFault(x, 3, "wig 0 of 0000;", 2, 9);
        CHECK.dueFault(x, 3, "wig 2 of 0;", 2, 4);
        CHECK.dueFault(x, 3, "wig 0 of 2;", 2, 9);
        CHECK.dueFault(x, 3, "wig 0 of;", 1, 8);
        CHECK.dueFault(x, 3, "wig 0 on 1;", 1, 6);
        CHECK.dueFault(x, 3, "in 0 off 0;", 1, 0);
        CHECK.dueFault(x, 3, "wig 0 of 1", 1, 10);
    }

    private static int mothBy(String law) {
        WornWigs x = new WornWigs();
        x.wig(2, 60);
        CHECK.dueText(x, 0, law, (int) law.chars().filter(c -> c == ';').count());
        return x.of(0, 6);
    }

    private static void lawReckons() {
        CHECK.due("* ahead of +", 7, mothBy("moth 1+2*3;"));
        CHECK.due("from the left", 5, mothBy("moth 10-3-2;"));
        CHECK.due("from the left", 6, mothBy("moth 7/2*2;"));
        CHECK.due("from the left", 2, mothBy("moth 100/7/7;"));
        CHECK.due("- and *", 4, mothBy("moth 10-2*3;"));
        WornWigs x = new WornWigs();
        x.wig(0, 50);
        x.judge(30, -7);
        x.rule(0, 0, 1, 1);
        Checks.text(x, 0, "counts 10 + mind / 2;");
        CHECK.due("-7 by 2 goes towards 0", 7, x.ruleOf(0, 0, 10));
        Checks.text(x, 0, "counts 9999*9999*9999 / 9999;");
        int wraps = 9999 * 9999 * 9999 / 9999;
        CHECK.due("ints wrap", Math.max(0, Math.min(99, wraps)), x.ruleOf(0, 0, 10));
        Checks.text(x, 0, "counts 7 when 9999*9999*22 < 0; counts 8;");
        CHECK.due("ints wrap", 9999 * 9999 * 22 < 0 ? 7 : 8, x.ruleOf(0, 0, 10));
    }

    private static void lawDecides() {
        CHECK.due("first that is so", 2, mothBy("moth 1 when 1>1; moth 2 when 1=1; moth 3;"));
        CHECK.due("one without when", 3, mothBy("moth 1 when 1<1; moth 3; moth 4;"));
        CHECK.due("other words are passed over", 4, mothBy("dies 1; counts 2; moth 4;"));
        CHECK.due("none is so", 1, mothBy("moth 50 when 1>1; dies 9;"));
        CHECK.due("and ahead of or", 1, mothBy("moth 1 when 1=1 or 1=1 and 1=2; moth 2;"));
        CHECK.due("and ahead of or", 1, mothBy("moth 1 when 1=2 and 1=1 or 1=1; moth 2;"));
        CHECK.due("( ahead of and", 2, mothBy("moth 1 when (1=1 or 1=1) and 1=2; moth 2;"));
        CHECK.due("not of one alone", 2, mothBy("moth 1 when not 1=1 and 1=2; moth 2;"));
        CHECK.due("not of one alone", 1, mothBy("moth 1 when not 1=2 or 1=1; moth 2;"));
        CHECK.due("not of a (", 1, mothBy("moth 1 when not (1=1 and 1=2); moth 2;"));
        CHECK.due("not of what is so", 2, mothBy("moth 1 when not 1=1; moth 2;"));
        CHECK.due("not of what is not so", 1, mothBy("moth 1 when not 1=2; moth 2;"));
        CHECK.due("not not of what is not so", 2, mothBy("moth 1 when not not 1=2; moth 2;"));
        CHECK.due("not not", 1, mothBy("moth 1 when not not 1=1; moth 2;"));
        CHECK.due("not behind and", 1, mothBy("moth 1 when 1=1 and not 1=2; moth 2;"));
        CHECK.due("sums compared", 1, mothBy("moth 1 when 1+1<3 and 2*2>3 and 4/2=2; moth 2;"));
    }

    private static void lawAsks() {
        WornWigs x = new WornWigs();
        x.wig(2, 60);
        x.wig(1, 61);
        x.judge(40, 7);
        x.judge(41, 8);
        x.trial(3, 0);
        x.rule(0, 5, 1, 21);
        x.rule(0, 6, 2, 22);
        x.rule(0, 6, -2, 23);
        x.act(0, 0, 0);
        x.tries(0, 0);
        x.years(3);
        String[] words = {"age", "mind", "colour", "hair", "itch", "lent", "cause", "weight", "tried", "year"};
        int[] counts = {41 + 3, 8, 2, 60 - 3 * 2, 9, 1, 6, 25, 0, 3};
        int[] moth = {0, 0, 2, 54, 9, 1, 0, 0, 0, 3};
        int[] dies = {43, 7, 2, 54, 9, 1, 0, 0, 1, 3};
        int[] diesBare = {44, 8, 0, 0, 0, 0, 0, 0, 0, 3};
        for (int i = 0; i < 10; i++) {
            String law = "counts " + words[i] + ";moth " + words[i] + ";dies " + words[i] + ";";
            CHECK.dueText(x, 0, law, 3);
            CHECK.due("counts " + words[i], counts[i], x.ruleOf(0, 1, 11));
            CHECK.due("moth " + words[i], moth[i], x.of(0, 6));
            CHECK.due("dies " + words[i], dies[i], x.who(0, 5));
            CHECK.due("dies without a wig " + words[i], diesBare[i], x.who(1, 5));
        }
        CHECK.dueText(x, 0, "", 0);
        CHECK.due("counts without law", 25, x.ruleOf(0, 1, 11));
    }

    private static void lawIsHeld() {
        WornWigs x = new WornWigs();
        x.wig(0, 60);
        x.judge(40, 7);
        x.rule(0, 5, 1, 21);
        Checks.text(x, 0, "counts 100; moth 100; dies 1001;");
        CHECK.due("counts", 99, x.ruleOf(0, 0, 10));
        CHECK.due("moth", 99, x.of(0, 6));
        CHECK.due("dies", 1000, x.who(0, 5));
        Checks.text(x, 0, "counts 0-1; moth 0-1; dies 0-1;");
        CHECK.due("counts", 0, x.ruleOf(0, 0, 10));
        CHECK.due("moth", 0, x.of(0, 6));
        CHECK.due("dies", 0, x.who(0, 5));
    }

    /** As much as can wait at once: two at each of nine levels, and the four of a comparison. */
    private static void lawGoesDeep() {
        String level = "1=2 or 1=1 and (";
        String law = "moth 5 when " + times(8, level) + "1=2 or 1=1 and 1+2*3<2+3*4" + times(8, ")") + ";moth 6;";
        CHECK.due("deep and so", 5, mothBy(law));
        String other = "moth 5 when " + times(8, level) + "1=2 or 1=1 and 1+2*3>2+3*4" + times(8, ")") + ";moth 6;";
        CHECK.due("deep and not so", 6, mothBy(other));
        CHECK.due("as long as can be", 98, mothBy("moth 1" + times(97, "+1") + ";"));
        WornWigs x = new WornWigs();
        x.wig(0, 5);
        CHECK.dueText(x, 0, "moth 1" + times(196, "*1") + ";", 1);
        CHECK.due("as long as can be", 1, x.of(0, 6));
    }
}
