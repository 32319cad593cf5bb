import java.util.function.Consumer;

/** The edges of UNDO and THE IMAGE, sentence by sentence: promises 38 and 39. */
public final class EdgesPastTest {
    private static final Checks CHECK = new Checks();

    public static void main(String[] args) {
        CHECK.runAll(EdgesPastTest.class);
        CHECK.end();
    }

    /** Two WIGS, three JUDGES of whom the last dies next YEAR, two CASES; WIG 1 is on JUDGE 1. */
    private static WornWigs bench() {
        WornWigs x = Checks.bench(2, 3, 2);
        x.rule(0, 0, 5, 20);
        x.rule(0, 0, -5, 20);
        x.rule(1, 3, 1, 2);
        x.set(0, 2, 119);
        x.act(0, 1, 1);
        x.state(7);
        return x;
    }

    private static void dueBack(String what, Consumer<WornWigs> deed) {
        WornWigs x = bench();
        String before = Checks.seenAll(x);
        deed.accept(x);
        CHECK.due(what + " changes something", false, before.equals(Checks.seenAll(x)));
        CHECK.due(what + " can be undone", 1, x.look(12));
        CHECK.due("undo of " + what, true, x.undo());
        CHECK.due(what + " is undone", true, before.equals(Checks.seenAll(x)));
        CHECK.due("no second undo", false, x.undo());
    }

    // Promise 38: "UNDO: true;"
    // Promise 38, terms: "UNDO: the latest YEAR, TRIAL, ON, OFF, COMBING, BRUSHING not undone yet goes back (STATE, THE
    // BOOK, too):"
    private static void eachDeedGoesBack() {
        dueBack("a year", x -> x.years(1));
        dueBack("a trial", x -> x.tries(1, 1));
        dueBack("on", x -> x.act(0, 0, 0));
        dueBack("on another head", x -> x.act(0, 1, 0));
        dueBack("off", x -> x.act(1, 1, 0));
        dueBack("combing", x -> x.act(2, 0, 0));
        dueBack("brushing", x -> x.act(3, 0, 99));
    }

    // Promise 38: "UNDO: true;"
    private static void whatCannotBeUndoneIsNoDeed() {
        WornWigs x = bench();
        x.act(3, 0, 1);
        x.tries(2, 0);
        x.act(0, 0, 1);
        x.act(1, 0, 0);
        x.act(2, 0, 7);
        x.act(3, 0, 0);
        x.years(61);
        CHECK.due("one can be undone", 1, x.look(12));
        x.undo();
        CHECK.due("the brushing", 50, x.of(0, 1));
    }

    // Promise 38: "false if there is nothing."
    private static void nothingToUndo() {
        WornWigs x = new WornWigs();
        CHECK.refused(x, "undo of a new object", () -> x.undo());
        WornWigs y = bench();
        CHECK.refused(y, "undo of what was told", () -> y.undo());
        y.act(3, 0, 1);
        y.undo();
        CHECK.refused(y, "undo again", () -> y.undo());
    }

    // Promise 38, terms: "UNDO: the latest YEAR, TRIAL, ON, OFF, COMBING, BRUSHING not undone yet goes back (STATE, THE
    // BOOK, too):"
    private static void stateAndBookGoBack() {
        WornWigs x = bench();
        int lines = x.look(6);
        x.years(2);
        CHECK.due("state has gone on", false, x.look(7) == 7);
        CHECK.due("the book has gone on", true, x.look(6) > lines);
        x.undo();
        x.undo();
        CHECK.due("state", 7, x.look(7));
        CHECK.due("the book", lines, x.look(6));
        CHECK.due("no such line any more", -10000, x.book(lines, 0));
        x.act(2, 0, 0);
        CHECK.dueLine(x, lines, 0, 4, 0, 2);
    }

    // Promise 38, terms: "UNDO: the latest YEAR, TRIAL, ON, OFF, COMBING, BRUSHING not undone yet goes back (STATE, THE
    // BOOK, too):"
    private static void yearsGoBackOneByOne() {
        WornWigs x = bench();
        String[] before = new String[6];
        for (int i = 0; i < 6; i++) {
            before[i] = Checks.seen(x);
            x.years(1);
        }
        for (int i = 5; i >= 0; i--) {
            CHECK.due("undo", true, x.undo());
            CHECK.due("year " + i, true, before[i].equals(Checks.seen(x)));
        }
        x.years(6);
        CHECK.due("six at once", 6, x.look(12));
        for (int i = 5; i >= 0; i--) {
            CHECK.due("undo", true, x.undo());
            CHECK.due("year " + i, true, before[i].equals(Checks.seen(x)));
        }
        CHECK.due("no seventh", false, x.undo());
    }

    // Promise 38, terms: "6 are kept;"
    private static void sixAreKept() {
        WornWigs x = bench();
        for (int i = 1; i <= 20; i++) {
            x.act(3, 0, 1);
            CHECK.due("after " + i, Math.min(6, i), x.look(12));
        }
        for (int i = 1; i <= 6; i++) {
            CHECK.due("undo " + i, true, x.undo());
            CHECK.due("hair", 70 - i, x.of(0, 1));
            CHECK.due("left", 6 - i, x.look(12));
        }
        CHECK.refused(x, "a seventh", () -> x.undo());
    }

    // Promise 38, terms: "6 are kept;"
    private static void ofManyYearsTheLastSixAreKept() {
        int[] many = {5, 6, 7, 12, 60};
        for (int n : many) {
            WornWigs x = bench();
            x.act(3, 0, 1);
            x.years(n);
            int kept = Math.min(6, n + 1);
            CHECK.due("kept of " + n, kept, x.look(12));
            for (int i = 1; i <= kept; i++) {
                CHECK.due("undo", true, x.undo());
                CHECK.due("year", Math.max(0, n - i), x.look(3));
            }
            CHECK.due("no more", false, x.undo());
            if (n <= 6) {
                CHECK.due("the brushing is kept with five years, not with six", n == 5 ? 50 : 51, x.of(0, 1));
            }
        }
    }

    // Promise 38, terms: "6 are kept;"
    private static void keptOnesGoRound() {
        WornWigs x = bench();
        // Hair goes up by 1 and back by 1: at each step only what was really kept may come back.
        int[] steps = {1, 1, 1, 1, -1, 1, 1, 1, 1, 1, -1, -1, -1, -1, 1, 1, -1, 1, 1, 1, 1, 1, 1, -1, -1, -1, -1, -1, -1};
        java.util.ArrayDeque<Integer> kept = new java.util.ArrayDeque<>();
        for (int step : steps) {
            int hair = x.of(0, 1);
            if (step > 0) {
                x.act(3, 0, 1);
                kept.addLast(hair);
                if (kept.size() > 6) {
                    kept.removeFirst();
                }
                CHECK.due("hair", hair + 1, x.of(0, 1));
            } else {
                boolean can = !kept.isEmpty();
                CHECK.due("undo", can, x.undo());
                CHECK.due("hair", can ? kept.removeLast() : hair, x.of(0, 1));
            }
            CHECK.due("what can be undone", kept.size(), x.look(12));
        }
    }

    private static void dueForgets(String what, boolean forgets, Consumer<WornWigs> told) {
        WornWigs x = bench();
        x.image(true);
        x.act(3, 0, 1);
        x.years(1);
        told.accept(x);
        CHECK.due("what can be undone after " + what, forgets ? 0 : 2, x.look(12));
        CHECK.due("undo after " + what, !forgets, x.undo());
    }

    // Promise 38, terms: "whatever else is told but THE LAW, KIN and what is told for thought (TRAITS, CITES, ESTATE,
    // HEARS) (the taking of THE IMAGE does not) forgets them."
    private static void whatIsToldForgets() {
        dueForgets("state", true, x -> x.state(7));
        dueForgets("wig", true, x -> x.wig(0, 0));
        dueForgets("judge", true, x -> x.judge(0, 0));
        dueForgets("trial", true, x -> x.trial(0, 0));
        dueForgets("rule", true, x -> x.rule(0, 0, 0, 1));
        dueForgets("set age", true, x -> x.set(0, 0, 30));
        dueForgets("set mind", true, x -> x.set(1, 0, 0));
        dueForgets("set hair", true, x -> x.set(2, 0, 50));
        dueForgets("set merit", true, x -> x.set(3, 0, 0));
        dueForgets("docket", true, x -> Checks.text(x, 1, "in 0 case 0 before 0;"));
        dueForgets("an empty docket", true, x -> x.text(1));
        dueForgets("loans", true, x -> Checks.text(x, 2, "in 0 off 0;"));
        dueForgets("empty loans", true, x -> x.text(2));
        dueForgets("going back to the image", true, x -> x.image(false));
    }

    // Promise 38, terms: "whatever else is told but THE LAW, KIN and what is told for thought (TRAITS, CITES, ESTATE,
    // HEARS) (the taking of THE IMAGE does not) forgets them."
    private static void whatIsToldForThoughtForgetsNothing() {
        dueForgets("the law", false, x -> Checks.text(x, 0, "moth 1;"));
        dueForgets("an empty law", false, x -> x.text(0));
        dueForgets("kin", false, x -> Checks.text(x, 3, "wig 0 of 1;"));
        dueForgets("empty kin", false, x -> x.text(3));
        dueForgets("a trait", false, x -> x.trait(0, 0, true));
        dueForgets("no traits", false, x -> x.trait(-1, 0, true));
        dueForgets("a cite", false, x -> x.cite(0, 1));
        dueForgets("no cites", false, x -> x.cite(-1, 1));
        dueForgets("a parcel", false, x -> x.parcel(0, 0, 1));
        dueForgets("a hard case", false, x -> x.hard(1, 1));
        dueForgets("no hard cases", false, x -> x.hard(-1, 1));
        dueForgets("the taking of the image", false, x -> x.image(true));
        dueForgets("a feed", false, x -> x.feed(1, 2, 3, 4, 5));
        dueForgets("an end", false, x -> x.end(0));
        dueForgets("a thought", false, x -> x.goes(60, 0));
    }

    // Promise 38, terms: "whatever else is told but THE LAW, KIN and what is told for thought (TRAITS, CITES, ESTATE,
    // HEARS) (the taking of THE IMAGE does not) forgets them."
    private static void whatIsRefusedForgetsNothing() {
        dueForgets("a wig that can't be", false, x -> x.wig(3, 0));
        dueForgets("a judge that can't be", false, x -> x.judge(121, 0));
        dueForgets("a case that can't be", false, x -> x.trial(8, 0));
        dueForgets("a rule that can't be", false, x -> x.rule(0, 0, 0, 0));
        dueForgets("a set that can't be", false, x -> x.set(0, 0, 121));
        dueForgets("a set of nobody", false, x -> x.set(0, 3, 1));
        dueForgets("a docket with a fault", false, x -> Checks.text(x, 1, "in 0 case 9 before 0;"));
        dueForgets("loans with a fault", false, x -> Checks.text(x, 2, "in 0 off 9;"));
        dueForgets("no such text", false, x -> x.text(4));
        dueForgets("years that can't be", false, x -> x.years(0));
        dueForgets("a trial that can't be", false, x -> x.tries(0, 9));
        dueForgets("a deed that can't be", false, x -> x.act(1, 0, 0));
    }

    // Promise 38, terms: "whatever else is told but THE LAW, KIN and what is told for thought (TRAITS, CITES, ESTATE,
    // HEARS) (the taking of THE IMAGE does not) forgets them."
    private static void undoLeavesWhatIsToldForThought() {
        WornWigs x = bench();
        x.act(3, 0, 1);
        Checks.text(x, 0, "moth 44;");
        Checks.text(x, 3, "wig 0 of 1;");
        x.trait(1, 50, true);
        x.cite(4, 5);
        x.parcel(9, 0, 9);
        x.hard(9, 1);
        x.undo();
        CHECK.due("hair is undone", 50, x.of(0, 1));
        CHECK.due("the law", 44, x.of(0, 6));
        CHECK.due("kin", 1, x.kin(0, -1));
        CHECK.due("traits", 3, x.whose(0));
        CHECK.due("cites", 4, x.chain(1));
        CHECK.due("estate", 9, x.cut(2));
        CHECK.due("hears", 8, x.hears(0));
    }

    // Promise 39: "THE IMAGE is taken (true), or gone back to (false): true;"
    // Promise 39, terms: "gone back to it may be more than once."
    private static void imageIsGoneBackToMoreThanOnce() {
        WornWigs x = bench();
        CHECK.due("taken", true, x.image(true));
        String taken = Checks.seen(x);
        for (int i = 0; i < 3; i++) {
            x.years(5 + i);
            x.wig(1, 1);
            x.tries(0, 0);
            CHECK.due("gone back to", true, x.image(false));
            CHECK.due("as it was taken", true, taken.equals(Checks.seen(x)));
        }
        CHECK.due("gone back to at once", true, x.image(false));
        CHECK.due("as it was taken", true, taken.equals(Checks.seen(x)));
    }

    // Promise 39: "THE IMAGE is taken (true), or gone back to (false): true;"
    private static void latestImageCounts() {
        WornWigs x = bench();
        x.image(true);
        x.years(1);
        x.image(true);
        x.years(1);
        x.image(false);
        CHECK.due("the second image", 1, x.look(3));
        x.image(false);
        CHECK.due("the second image", 1, x.look(3));
    }

    // Promise 39: "false if there is none."
    private static void noImage() {
        WornWigs x = bench();
        x.act(3, 0, 1);
        CHECK.refused(x, "there is none", () -> x.image(false));
        x.image(true);
        CHECK.due("there is one", true, x.image(false));
    }

    // Promise 39, terms: "THE IMAGE: all that is and was told but the TAPE, fault() and what can be undone (nothing
    // then), as it was when it was taken;"
    private static void imageHoldsAllThatIsAndWasTold() {
        WornWigs x = bench();
        Checks.text(x, 0, "moth 3; dies 4 when age > 200;");
        Checks.text(x, 1, "in 1 case 0 before 0;");
        Checks.text(x, 2, "in 1 brush 0 9;in 1 wig 0 on 0;");
        Checks.text(x, 3, "wig 0 of 1;");
        x.trait(1, 51, false);
        x.cite(2, 3);
        x.parcel(8, 1, 9);
        x.parcel(9, 0, 9);
        x.hard(9, 2);
        x.years(1);
        String taken = Checks.seen(x);
        x.image(true);
        String next = afterAYear(x);
        x.image(false);
        for (int k = 0; k < 4; k++) {
            x.text(k);
        }
        x.trait(-1, 0, true);
        x.trait(0, 2, true);
        x.trait(0, 2, true);
        x.cite(-1, 0);
        x.cite(7, 8);
        x.cite(8, 9);
        x.hard(-1, 0);
        x.hard(3, 1);
        x.hard(3, 1);
        for (int k = 0; k < 10; k++) {
            x.parcel(k, 0, k);
            x.parcel(k, 1, k);
        }
        x.set(0, 0, 119);
        x.set(1, 1, 9);
        x.set(2, 1, 9);
        x.set(3, 1, 9);
        x.state(12345);
        for (int i = 0; i < 14; i++) {
            x.wig(1, 1);
            x.judge(1, 1);
            x.trial(1, 1);
            x.rule(0, 7, 7, 7);
        }
        x.act(2, 1, 3);
        x.years(60);
        x.image(false);
        CHECK.due("as it was taken", true, taken.equals(Checks.seen(x)));
        CHECK.due("the law, docket and loans go on", true, next.equals(afterAYear(x)));
    }

    private static String afterAYear(WornWigs x) {
        x.years(1);
        return Checks.seen(x);
    }

    // Promise 39, terms: "THE IMAGE: all that is and was told but the TAPE, fault() and what can be undone (nothing
    // then), as it was when it was taken;"
    private static void eachThingToldForThoughtComesBack() {
        WornWigs x = Checks.bench(3, 0, 0);
        x.set(2, 0, 10);
        x.set(2, 1, 20);
        int[][] traits = {{1, 20, 1}, {1, 20, 0}, {1, 50, 1}, {2, 7, 0}};
        int[] whose = {6, 1, 4, 7};
        for (int i = 0; i < traits.length; i++) {
            x.trait(-1, 0, true);
            x.trait(traits[i][0], traits[i][1], traits[i][2] == 1);
            x.image(true);
            int other = (i + 1) % traits.length;
            x.trait(-1, 0, true);
            x.trait(traits[other][0], traits[other][1], traits[other][2] == 1);
            CHECK.due("another trait", whose[other], x.whose(0));
            x.image(false);
            CHECK.due("the trait", whose[i], x.whose(0));
        }
        x.cite(1, 2);
        x.hard(5, 1);
        x.image(true);
        x.cite(-1, 0);
        x.cite(1, 3);
        x.cite(2, 4);
        x.hard(-1, 0);
        x.hard(5, 2);
        x.image(false);
        x.cite(3, 4);
        CHECK.due("1 cites 2, not 3", 2, x.chain(0));
        CHECK.due("due at 1, not at 2", 4, x.hears(0));
        x.image(true);
        x.hard(-1, 0);
        x.hard(9, 1);
        x.cite(-1, 0);
        x.cite(8, 2);
        x.image(false);
        CHECK.due("1 cites 2, not 8", 1, x.chain(1));
        CHECK.due("5 hours, not 9", 4, x.hears(0));
    }

    // Promise 39, terms: "THE IMAGE: all that is and was told but the TAPE, fault() and what can be undone (nothing
    // then), as it was when it was taken;"
    private static void linesOfTheBookComeBack() {
        WornWigs x = bench();
        int line = x.look(6);
        x.act(0, 0, 0);
        x.image(true);
        x.undo();
        x.tries(1, 2);
        CHECK.dueLine(x, line, 0, 0, 1, 0);
        x.image(false);
        CHECK.dueLine(x, line, 0, 1, 0, 0);
        CHECK.due("lines", line + 1, x.look(6));
    }

    // Promise 39, terms: "THE IMAGE: all that is and was told but the TAPE, fault() and what can be undone (nothing
    // then), as it was when it was taken;"
    private static void imageLeavesTheTapeAndTheFault() {
        WornWigs x = bench();
        CHECK.dueFault(x, 0, "moth", 1, 4);
        Checks.tape(x, "moth 8;");
        x.image(true);
        CHECK.dueFault(x, 0, "moth 1/0;", 2, 7);
        Checks.tape(x, "moth 9;  ");
        x.image(false);
        CHECK.due("the fault stays", 2, x.fault(0));
        CHECK.due("its place stays", 7, x.fault(1));
        CHECK.due("the tape stays", 9, Checks.tapeLength(x));
        CHECK.due("it is a text", 1, x.text(0));
        CHECK.due("moth 9", 9, x.of(0, 6));
    }

    // Promise 39, terms: "THE IMAGE: all that is and was told but the TAPE, fault() and what can be undone (nothing
    // then), as it was when it was taken;"
    private static void nothingCanBeUndoneThen() {
        WornWigs x = bench();
        x.act(3, 0, 1);
        x.act(3, 0, 1);
        x.image(true);
        CHECK.due("two still can", 2, x.look(12));
        x.act(3, 0, 1);
        x.image(false);
        CHECK.due("nothing", 0, x.look(12));
        CHECK.refused(x, "undo", () -> x.undo());
        x.act(3, 0, 1);
        CHECK.due("one again", 1, x.look(12));
        x.undo();
        CHECK.due("hair as it was taken", 52, x.of(0, 1));
    }
}
