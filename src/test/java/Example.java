/** The example of README.md: a small court, and a law that is told to it as a text. */
public final class Example {
    public static void main(String[] args) {
        WornWigs x = new WornWigs();
        int wig = x.wig(1, 50);         // colour, hair
        int judge = x.judge(40, 2);     // age, mind
        int heir = x.judge(25, -3);
        int trial = x.trial(3, 10);     // cause, merit
        x.rule(wig, 3, 4, 20);          // cause, ruling, weight
        x.act(0, wig, judge);           // 0: a wig on a judge

        print("would(trial, heir)", x.would(trial, heir));
        print("tries(trial, judge)", x.tries(trial, judge));
        print("rules in the wig", x.of(wig, 5));

        print("lines of the law", tell(x, 0, "moth 2 when hair > 9; dies 1000 when age > 44;"));
        print("dead in four years", x.goes(4, 0));
        print("dead in five years", x.goes(5, 0));
        print("years(5)", x.years(5));
        print("who wears the wig", x.of(wig, 4));
        x.undo();                       // the fifth year did not go by
        print("who wears it then", x.of(wig, 4));
        print("the year", x.look(3));

        print("a law with a fault", tell(x, 0, "moth 2 when hair >;"));
        print("the fault", x.fault(0));
        print("its place", x.fault(1));
        print("lines of the law", x.look(8));
    }

    /** Tells TEXT k: how many lines it has, or NONE if there is a fault or it does not fit on the tape. */
    private static int tell(WornWigs x, int k, String text) {
        x.end(0);
        for (int at = 0; at < text.length(); at += 20) {
            x.feed(four(text, at), four(text, at + 4), four(text, at + 8), four(text, at + 12), four(text, at + 16));
        }
        return x.end(text.length()) ? x.text(k) : WornWigs.NONE;
    }

    /** Four bytes as one number, the first of them highest; behind the text there are blanks. */
    private static int four(String text, int at) {
        int number = 0;
        for (int i = at; i < at + 4; i++) {
            number = number << 8 | (i < text.length() ? text.charAt(i) & 255 : ' ');
        }
        return number;
    }

    private static void print(String what, int answer) {
        System.out.println(what + ": " + answer);
    }
}
