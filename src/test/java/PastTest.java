/** Promises 38 and 39: what is undone, what forgets it, and THE IMAGE. */
public final class PastTest {
    private static final Checks CHECK = new Checks();

    public static void main(String[] args) {
        eachDeedGoesBack();
        yearGoesBackWhole();
        sixAreKept();
        bookIsWrittenAnew();
        whatIsToldForgets();
        whatDoesNotForget();
        whatCannotBeForgetsNothing();
        lawStaysWhenUndone();
        imageHoldsAll();
        imageLeavesTapeAndFault();
        CHECK.end();
    }

    private static WornWigs bench() {
        WornWigs x = new WornWigs();
        x.wig(0, 50);
        x.wig(1, 1);
        x.judge(40, 2);
        x.judge(119, -3);
        x.trial(0, 30);
        x.trial(1, -30);
        x.rule(0, 0, 5, 20);
        x.rule(0, 0, -5, 20);
        x.rule(1, 3, 1, 2);
        return x;
    }

    private static void sameAs(String what, String before, WornWigs x) {
        CHECK.due(what, true, before.equals(Checks.seen(x)));
    }

    private static void eachDeedGoesBack() {
        WornWigs x = bench();
        String[] before = new String[7];
        before[0] = Checks.seen(x);
        CHECK.due("on", true, x.act(0, 0, 0));
        before[1] = Checks.seen(x);
        CHECK.due("tries", 36 + 11 - 12, x.tries(0, 0));
        before[2] = Checks.seen(x);
        CHECK.due("brush", true, x.act(3, 0, 5));
        before[3] = Checks.seen(x);
        CHECK.due("comb", true, x.act(2, 0, 0));
        before[4] = Checks.seen(x);
        CHECK.due("off", true, x.act(1, 0, 0));
        before[5] = Checks.seen(x);
        CHECK.due("years", 1, x.years(1));
        for (int i = 5; i >= 0; i--) {
            CHECK.due("what can be undone", i + 1, x.look(12));
            CHECK.due("undo " + i, true, x.undo());
            sameAs("as before " + i, before[i], x);
        }
        CHECK.due("nothing is left", false, x.undo());
        sameAs("still as before", before[0], x);
    }

    private static void yearGoesBackWhole() {
        WornWigs x = bench();
        x.judge(90, 0);
        x.state(77);
        Checks.text(x, 1, "in 0 case 0 before 0; in 1 case 1 before 0;");
        Checks.text(x, 2, "in 0 wig 0 on 1; in 0 wig 1 on 0;");
        String before = Checks.seen(x);
        CHECK.due("years(2) lets one die at least", true, x.years(2) >= 1);
        CHECK.due("two can be undone", 2, x.look(12));
        CHECK.due("state has gone on", true, x.look(7) != 77);
        x.undo();
        CHECK.due("year", 1, x.look(3));
        x.undo();
        sameAs("as before", before, x);
        String after = "";
        x.years(2);
        after = Checks.seen(x);
        x.undo();
        x.undo();
        x.years(2);
        sameAs("the same again", after, x);
    }

    private static void sixAreKept() {
        WornWigs x = bench();
        x.years(60);
        CHECK.due("what can be undone", 6, x.look(12));
        for (int i = 0; i < 6; i++) {
            CHECK.due("undo", true, x.undo());
        }
        CHECK.due("a seventh", false, x.undo());
        CHECK.due("year", 54, x.look(3));
        CHECK.due("brush", true, x.act(3, 0, 1));
        CHECK.due("what can be undone", 1, x.look(12));
        CHECK.due("undo", true, x.undo());
        CHECK.due("hair", 0, x.of(0, 1));
    }

    private static void bookIsWrittenAnew() {
        WornWigs x = bench();
        x.act(0, 0, 0);
        x.tries(0, 0);
        x.undo();
        CHECK.due("lines", 1, x.look(6));
        CHECK.due("no such line", -10000, x.book(1, 0));
        x.act(2, 0, 0);
        CHECK.due("another line", 4, x.book(1, 1));
        CHECK.due("how many went", 2, x.book(1, 3));
    }

    private static void forgets(String what, WornWigs x, boolean done) {
        CHECK.due(what + " is told", true, done);
        CHECK.due(what + " forgets", 0, x.look(12));
        CHECK.due(what + " forgets", false, x.undo());
        x.act(3, 1, 1);
    }

    private static void whatIsToldForgets() {
        WornWigs x = bench();
        x.act(3, 1, 1);
        forgets("state", x, x.state(3) == 0);
        forgets("wig", x, x.wig(0, 0) == 2);
        forgets("judge", x, x.judge(0, 0) == 2);
        forgets("trial", x, x.trial(0, 0) == 2);
        forgets("rule", x, x.rule(0, 0, 0, 1) == 3);
        for (int what = 0; what < 4; what++) {
            forgets("set " + what, x, x.set(what, 0, 1));
        }
        forgets("docket", x, Checks.text(x, 1, "in 1 case 0 before 0;") == 1);
        forgets("an empty docket", x, Checks.text(x, 1, "") == 0);
        forgets("loans", x, Checks.text(x, 2, "in 1 off 0;") == 1);
        x.image(true);
        forgets("gone back to the image", x, x.image(false));
    }

    private static void whatDoesNotForget() {
        WornWigs x = bench();
        x.act(3, 1, 1);
        x.act(3, 1, 1);
        Checks.text(x, 0, "moth 4;");
        Checks.text(x, 3, "wig 0 of 1;");
        x.trait(0, 0, true);
        x.trait(-1, 0, true);
        x.cite(1, 2);
        x.cite(-1, 2);
        x.parcel(1, 1, 1);
        x.hard(1, 1);
        x.hard(-1, 1);
        x.image(true);
        x.goes(60, 1);
        x.feed(1, 2, 3, 4, 5);
        x.end(0);
        CHECK.due("two can be undone", 2, x.look(12));
        CHECK.due("undo", true, x.undo());
        CHECK.due("undo", true, x.undo());
        CHECK.due("hair", 1, x.of(1, 1));
    }

    private static void whatCannotBeForgetsNothing() {
        WornWigs x = bench();
        x.act(3, 1, 1);
        x.wig(3, 0);
        x.judge(-1, 0);
        x.trial(8, 0);
        x.rule(0, 0, 0, 0);
        x.set(0, 5, 1);
        x.set(3, 0, 100);
        x.tries(0, 7);
        x.act(1, 0, 0);
        x.years(0);
        Checks.text(x, 1, "in 1;");
        Checks.text(x, 2, "in 1;");
        x.text(4);
        x.image(false);
        CHECK.due("one can be undone", 1, x.look(12));
        CHECK.due("undo", true, x.undo());
        CHECK.due("hair", 1, x.of(1, 1));
    }

    private static void lawStaysWhenUndone() {
        WornWigs x = bench();
        x.years(1);
        Checks.text(x, 0, "moth 33;");
        Checks.text(x, 3, "wig 0 of 1;");
        x.hard(3, 1);
        x.undo();
        CHECK.due("year", 0, x.look(3));
        CHECK.due("law", 33, x.of(0, 6));
        CHECK.due("kin", 1, x.kin(0, -1));
        CHECK.due("hears", 2, x.hears(0));
    }

    private static void imageHoldsAll() {
        WornWigs x = bench();
        CHECK.due("there is none", false, x.image(false));
        Checks.text(x, 0, "moth 2; counts 3; dies 4;");
        Checks.text(x, 1, "in 3 case 1 before 0;");
        Checks.text(x, 2, "in 3 off 0;in 4 off 0;");
        Checks.text(x, 3, "wig 0 of 1;");
        x.trait(1, 40, true);
        x.cite(3, 4);
        x.cite(4, 5);
        x.parcel(9, 0, 5);
        x.parcel(8, 0, 5);
        x.hard(9, 1);
        x.state(99);
        x.act(0, 0, 0);
        x.tries(0, 0);
        x.years(1);
        String before = Checks.seen(x);
        CHECK.due("image(true)", true, x.image(true));
        CHECK.due("what can be undone stays", 3, x.look(12));
        for (int round = 0; round < 2; round++) {
            x.years(40);
            x.wig(0, 1);
            x.judge(1, 1);
            x.trial(1, 1);
            x.rule(0, 7, 7, 7);
            x.set(1, 0, -9);
            x.state(1);
            for (int k = 0; k < 4; k++) {
                Checks.text(x, k, "");
            }
            x.trait(0, 2, false);
            x.trait(-1, 0, false);
            x.cite(-1, 0);
            x.parcel(9, 0, 0);
            x.parcel(9, 1, 90);
            x.hard(-1, 0);
            CHECK.due("image(false)", true, x.image(false));
            sameAs("as it was taken", before, x);
            CHECK.due("nothing can be undone", 0, x.look(12));
            CHECK.due("nothing can be undone", false, x.undo());
            CHECK.due("moth", 2, x.of(0, 6));
            CHECK.due("kin", 1, x.kin(0, -1));
            CHECK.due("traits", 1, x.whose(0));
            CHECK.due("cites", 3, x.chain(0));
            CHECK.due("first", 3, x.chain(1));
            CHECK.due("estate", 9, x.cut(0));
            CHECK.due("estate of the other", 0, x.cut(1));
            CHECK.due("hears", 8, x.hears(0));
        }
        x.years(3);
        CHECK.due("docket goes on from it", 0, x.trialOf(1, 3));
        CHECK.due("loans go on from it", -1, x.of(0, 4));
        x.image(true);
        x.wig(0, 1);
        x.image(false);
        CHECK.due("the latest image", 4, x.look(3));
    }

    private static void imageLeavesTapeAndFault() {
        WornWigs x = bench();
        x.feed(0x6d6f7468, 0x20393b20, 0x20202020, 0x20202020, 0x20202020);
        x.image(true);
        x.end(7);
        x.image(false);
        CHECK.due("the tape stays as it is", 27, x.feed(0x20202020, 0x20202020, 0x20202020, 0x20202020, 0x20202020));
        CHECK.due("and is a text", 1, x.text(0));
        CHECK.due("moth", 9, x.of(0, 6));
        CHECK.dueFault(x, 0, "moth x;", 1, 5);
        x.image(false);
        CHECK.due("the fault stays as it is", 1, x.fault(0));
        CHECK.due("its place, too", 5, x.fault(1));
        CHECK.due("but not the law", 0, x.look(8));
    }
}
