import java.util.ArrayDeque;
import java.util.ArrayList;
import java.util.Arrays;
import java.util.Deque;
import java.util.HashMap;
import java.util.List;
import java.util.Map;

/**
 * The document read a second time, as slowly and plainly as can be: what is thought is tried out
 * case by case, what is done is done on copies. RandomRunsTest compares WornWigs with it.
 */
final class Model {
    static final int NONE = -1;

    static final class Rule {
        int cause;
        int ruling;
        int weight;

        Rule(int cause, int ruling, int weight) {
            this.cause = cause;
            this.ruling = ruling;
            this.weight = weight;
        }
    }

    static final class Wig {
        int colour;
        int hair;
        int lent;
        List<Rule> rules = new ArrayList<>();

        int itch() {
            int couples = 0;
            for (int a = 0; a < rules.size(); a++) {
                for (int b = 0; b < a; b++) {
                    couples += quarrel(rules.get(a), rules.get(b)) ? 1 : 0;
                }
            }
            return Math.min(99, couples * 9);
        }

        Wig copy() {
            Wig w = new Wig();
            w.colour = colour;
            w.hair = hair;
            w.lent = lent;
            for (Rule r : rules) {
                w.rules.add(new Rule(r.cause, r.ruling, r.weight));
            }
            return w;
        }
    }

    static final class Judge {
        int age;
        int mind;
        int wig = NONE;
        boolean dead;
        int tried;

        Judge copy() {
            Judge j = new Judge();
            j.age = age;
            j.mind = mind;
            j.wig = wig;
            j.dead = dead;
            j.tried = tried;
            return j;
        }
    }

    static final class Case {
        int cause;
        int merit;
        Integer verdict;
        int by = NONE;

        Case copy() {
            Case c = new Case();
            c.cause = cause;
            c.merit = merit;
            c.verdict = verdict;
            c.by = by;
            return c;
        }
    }

    /** What a YEAR may change. */
    static final class Bench {
        List<Wig> wigs = new ArrayList<>();
        List<Judge> judges = new ArrayList<>();
        List<Case> cases = new ArrayList<>();
        List<int[]> book = new ArrayList<>();
        int year;
        int state;

        Bench copy() {
            Bench b = new Bench();
            for (Wig w : wigs) {
                b.wigs.add(w.copy());
            }
            for (Judge j : judges) {
                b.judges.add(j.copy());
            }
            for (Case c : cases) {
                b.cases.add(c.copy());
            }
            b.book.addAll(book);
            b.year = year;
            b.state = state;
            return b;
        }

        int wearer(int wig) {
            for (int j = 0; j < judges.size(); j++) {
                if (judges.get(j).wig == wig) {
                    return j;
                }
            }
            return NONE;
        }

        void write(int what, int which, int howMuch) {
            if (book.size() < 150) {
                book.add(new int[] {year, what, which, howMuch});
            }
        }
    }

    interface Node {
        int value(Map<String, Integer> facts);
    }

    record LawLine(String word, Node sum, Node when) {
    }

    /** One line of DOCKET, LOANS or KIN. */
    record Line(int year, String what, int a, int b) {
    }

    static final class Told {
        List<LawLine> law = new ArrayList<>();
        List<Line> docket = new ArrayList<>();
        List<Line> loans = new ArrayList<>();
        List<Line> kin = new ArrayList<>();
        List<int[]> traits = new ArrayList<>();
        List<int[]> cites = new ArrayList<>();
        int[][] worth = new int[2][10];
        List<int[]> hards = new ArrayList<>();

        Told copy() {
            Told t = new Told();
            t.law.addAll(law);
            t.docket.addAll(docket);
            t.loans.addAll(loans);
            t.kin.addAll(kin);
            t.traits.addAll(traits);
            t.cites.addAll(cites);
            t.worth = new int[][] {worth[0].clone(), worth[1].clone()};
            t.hards.addAll(hards);
            return t;
        }
    }

    Bench bench = new Bench();
    Told told = new Told();
    final Deque<Bench> past = new ArrayDeque<>();
    private Bench benchImage;
    private Told toldImage;
    private byte[] tape = new byte[0];
    private int fault;
    private int faultPlace = NONE;

    static boolean quarrel(Rule a, Rule b) {
        return a.cause == b.cause && (a.ruling < 0 && b.ruling > 0 || a.ruling > 0 && b.ruling < 0);
    }

    static boolean in(int v, int least, int most) {
        return least <= v && v <= most;
    }

    static int hold(int v, int least, int most) {
        return v < least ? least : v > most ? most : v;
    }

    boolean isWig(int w) {
        return in(w, 0, bench.wigs.size() - 1);
    }

    boolean isJudge(int j) {
        return in(j, 0, bench.judges.size() - 1);
    }

    boolean lives(int j) {
        return isJudge(j) && !bench.judges.get(j).dead;
    }

    boolean isCase(int c) {
        return in(c, 0, bench.cases.size() - 1);
    }

    // What is told.

    int state(int v) {
        int was = bench.state;
        bench.state = v;
        past.clear();
        return was;
    }

    int wig(int colour, int hair) {
        if (bench.wigs.size() == 8 || !in(colour, 0, 2) || !in(hair, 0, 99)) {
            return NONE;
        }
        Wig w = new Wig();
        w.colour = colour;
        w.hair = hair;
        bench.wigs.add(w);
        past.clear();
        return bench.wigs.size() - 1;
    }

    int judge(int age, int mind) {
        if (bench.judges.size() == 10 || !in(age, 0, 120) || !in(mind, -9, 9)) {
            return NONE;
        }
        Judge j = new Judge();
        j.age = age;
        j.mind = mind;
        bench.judges.add(j);
        past.clear();
        return bench.judges.size() - 1;
    }

    int trial(int cause, int merit) {
        if (bench.cases.size() == 14 || !in(cause, 0, 7) || !in(merit, -99, 99)) {
            return NONE;
        }
        Case c = new Case();
        c.cause = cause;
        c.merit = merit;
        bench.cases.add(c);
        past.clear();
        return bench.cases.size() - 1;
    }

    int rule(int wig, int cause, int ruling, int weight) {
        if (!isWig(wig) || !in(cause, 0, 7) || !in(ruling, -9, 9) || !in(weight, 1, 99)) {
            return NONE;
        }
        List<Rule> rules = bench.wigs.get(wig).rules;
        if (rules.size() == 8) {
            return NONE;
        }
        rules.add(new Rule(cause, ruling, weight));
        past.clear();
        return rules.size();
    }

    boolean set(int what, int who, int v) {
        if (what == 0 && isJudge(who) && in(v, 0, 120)) {
            bench.judges.get(who).age = v;
        } else if (what == 1 && isJudge(who) && in(v, -9, 9)) {
            bench.judges.get(who).mind = v;
        } else if (what == 2 && isWig(who) && in(v, 0, 99)) {
            bench.wigs.get(who).hair = v;
        } else if (what == 3 && isCase(who) && in(v, -99, 99)) {
            bench.cases.get(who).merit = v;
        } else {
            return false;
        }
        past.clear();
        return true;
    }

    // What THE LAW tells.

    private int lawful(String word, Map<String, Integer> facts, int otherwise) {
        for (LawLine line : told.law) {
            if (line.word().equals(word) && (line.when() == null || line.when().value(facts) == 1)) {
                return line.sum().value(facts);
            }
        }
        return otherwise;
    }

    private Map<String, Integer> facts(Judge j, Wig w, Rule r) {
        Map<String, Integer> facts = new HashMap<>();
        facts.put("age", j == null ? 0 : j.age);
        facts.put("mind", j == null ? 0 : j.mind);
        facts.put("tried", j == null ? 0 : j.tried);
        facts.put("colour", w == null ? 0 : w.colour);
        facts.put("hair", w == null ? 0 : w.hair);
        facts.put("itch", w == null ? 0 : w.itch());
        facts.put("lent", w == null ? 0 : w.lent);
        facts.put("cause", r == null ? 0 : r.cause);
        facts.put("weight", r == null ? 0 : r.weight);
        facts.put("year", bench.year);
        return facts;
    }

    private int counts(Rule r, Wig w, Judge j) {
        return hold(lawful("counts", facts(j, w, r), r.weight), 0, 99);
    }

    private int moth(Wig w) {
        return hold(lawful("moth", facts(null, w, null), 1 + w.itch() / 9), 0, 99);
    }

    private int dies(Judge j) {
        Wig w = j.wig == NONE ? null : bench.wigs.get(j.wig);
        return hold(lawful("dies", facts(j, w, null), j.age > 60 ? (j.age - 60) * 9 : 0), 0, 1000);
    }

    // What is done.

    private int verdict(Case c, Judge j) {
        int sum = c.merit + 3 * j.mind;
        if (j.wig != NONE) {
            Wig w = bench.wigs.get(j.wig);
            for (Rule r : w.rules) {
                if (r.cause == c.cause) {
                    sum += Math.floorDiv(r.ruling * counts(r, w, j), 9);
                }
            }
        }
        return hold(sum, -999, 999);
    }

    private void remember() {
        past.addLast(bench.copy());
        if (past.size() > 6) {
            past.removeFirst();
        }
    }

    private boolean hear(int c, int j, boolean byHand) {
        if (!isCase(c) || !lives(j) || bench.cases.get(c).verdict != null) {
            return false;
        }
        if (byHand) {
            remember();
        }
        Case heard = bench.cases.get(c);
        Judge judge = bench.judges.get(j);
        int verdict = verdict(heard, judge);
        heard.verdict = verdict;
        heard.by = j;
        judge.tried++;
        if (judge.wig != NONE) {
            List<Rule> rules = bench.wigs.get(judge.wig).rules;
            if (rules.size() == 8) {
                Rule least = rules.get(0);
                for (Rule r : rules) {
                    least = r.weight < least.weight ? r : least;
                }
                rules.remove(least);
            }
            rules.add(new Rule(heard.cause, hold(Math.floorDiv(verdict, 20), -9, 9), 9));
        }
        bench.write(0, c, verdict);
        return true;
    }

    int tries(int c, int j) {
        return hear(c, j, true) ? bench.cases.get(c).verdict : -10000;
    }

    private void on(int w, int j) {
        int wore = bench.wearer(w);
        if (wore != NONE) {
            bench.judges.get(wore).wig = NONE;
        }
        bench.judges.get(j).wig = w;
        bench.wigs.get(w).lent++;
        bench.write(1, w, j);
    }

    private boolean perform(String what, int w, int v, boolean byHand) {
        if (!isWig(w)) {
            return false;
        }
        Wig wig = bench.wigs.get(w);
        boolean can = switch (what) {
            case "on" -> lives(v) && bench.judges.get(v).wig == NONE;
            case "off" -> bench.wearer(w) != NONE;
            case "comb" -> wig.rules.stream().anyMatch(r -> r.cause == v);
            case "brush" -> in(v, 1, 99);
            default -> false;
        };
        if (!can) {
            return false;
        }
        if (byHand) {
            remember();
        }
        switch (what) {
            case "on" -> on(w, v);
            case "off" -> bench.judges.get(bench.wearer(w)).wig = NONE;
            case "comb" -> {
                int before = wig.rules.size();
                wig.rules.removeIf(r -> r.cause == v);
                bench.write(4, w, before - wig.rules.size());
            }
            default -> {
                wig.hair = Math.min(99, wig.hair + v);
                wig.rules.forEach(r -> r.weight = Math.max(1, r.weight - 1));
            }
        }
        return true;
    }

    boolean act(int what, int who, int v) {
        String[] deeds = {"on", "off", "comb", "brush"};
        return in(what, 0, 3) && perform(deeds[what], who, v, true);
    }

    private int draw(int m) {
        bench.state = bench.state * 1664525 + 1013904223;
        return (int) (((bench.state & 0xffffffffL) >> 8) % m);
    }

    private int oneYear(boolean inThought) {
        for (Line line : told.loans) {
            if (line.year() == bench.year) {
                perform(line.what(), line.a(), line.b(), false);
            }
        }
        for (Line line : told.docket) {
            if (line.year() == bench.year) {
                hear(line.a(), line.b(), false);
            }
        }
        int died = 0;
        for (int j = 0; j < bench.judges.size(); j++) {
            Judge judge = bench.judges.get(j);
            if (judge.dead) {
                continue;
            }
            judge.age = Math.min(120, judge.age + 1);
            int dies = dies(judge);
            boolean dead = false;
            if (inThought) {
                dead = dies >= 500;
            } else if (dies > 0) {
                dead = draw(1000) < dies;
            }
            if (dead || judge.age == 120) {
                died++;
                judge.dead = true;
                bench.write(2, j, judge.age);
                passOn(judge);
            }
        }
        for (int w = 0; w < bench.wigs.size(); w++) {
            Wig wig = bench.wigs.get(w);
            wig.hair = Math.max(0, wig.hair - moth(wig));
            if (wig.hair == 0 && !wig.rules.isEmpty()) {
                bench.write(3, w, wig.rules.remove(0).cause);
            }
            if (bench.wearer(w) != NONE) {
                wig.rules.forEach(r -> r.weight = Math.min(99, r.weight + 1));
            }
        }
        bench.year++;
        return died;
    }

    private int passOn(Judge dead) {
        int next = NONE;
        for (int j = 0; j < bench.judges.size(); j++) {
            Judge judge = bench.judges.get(j);
            if (!judge.dead && judge.wig == NONE && (next == NONE || judge.age < bench.judges.get(next).age)) {
                next = j;
            }
        }
        int wig = dead.wig;
        dead.wig = NONE;
        if (wig != NONE && next != NONE) {
            on(wig, next);
        }
        return wig == NONE ? NONE : next;
    }

    int years(int n) {
        if (!in(n, 1, 60) || bench.year + n > 9999) {
            return NONE;
        }
        int died = 0;
        for (int i = 0; i < n; i++) {
            remember();
            died += oneYear(false);
        }
        return died;
    }

    // The TAPE and the TEXTS.

    int feed(int... five) {
        if (tape.length + 20 > 400) {
            return NONE;
        }
        int from = tape.length;
        tape = Arrays.copyOf(tape, from + 20);
        for (int i = 0; i < 20; i++) {
            tape[from + i] = (byte) (five[i / 4] >> 24 - i % 4 * 8);
        }
        return tape.length;
    }

    boolean end(int n) {
        if (!in(n, 0, tape.length)) {
            return false;
        }
        tape = Arrays.copyOf(tape, n);
        return true;
    }

    int text(int k) {
        String text = new String(tape, java.nio.charset.StandardCharsets.ISO_8859_1);
        tape = new byte[0];
        fault = 0;
        faultPlace = NONE;
        if (!in(k, 0, 3)) {
            return NONE;
        }
        try {
            ModelParser parser = new ModelParser(text, bench);
            if (k == 0) {
                told.law = parser.law();
                return told.law.size();
            }
            List<Line> lines = parser.lines(k);
            if (k == 1) {
                told.docket = lines;
            } else if (k == 2) {
                told.loans = lines;
            } else {
                told.kin = lines;
            }
            if (k != 3) {
                past.clear();
            }
            return lines.size();
        } catch (ModelParser.Fault f) {
            fault = f.kind;
            faultPlace = f.place;
            return NONE;
        }
    }

    int fault(int what) {
        return what == 0 ? fault : what == 1 ? faultPlace : NONE;
    }

    // What is asked.

    int of(int wig, int what) {
        if (!isWig(wig)) {
            return -2;
        }
        Wig w = bench.wigs.get(wig);
        return switch (what) {
            case 0 -> w.colour;
            case 1 -> w.hair;
            case 2 -> w.itch();
            case 3 -> w.lent;
            case 4 -> bench.wearer(wig);
            case 5 -> w.rules.size();
            case 6 -> moth(w);
            default -> -2;
        };
    }

    int ruleOf(int wig, int i, int what) {
        if (!isWig(wig) || !in(i, 0, bench.wigs.get(wig).rules.size() - 1)) {
            return -100;
        }
        Wig w = bench.wigs.get(wig);
        Rule r = w.rules.get(i);
        if (in(what, 10, 19) && isJudge(what - 10)) {
            return counts(r, w, bench.judges.get(what - 10));
        }
        return what == 0 ? r.cause : what == 1 ? r.ruling : what == 2 ? r.weight : -100;
    }

    int who(int judge, int what) {
        if (!isJudge(judge)) {
            return -100;
        }
        Judge j = bench.judges.get(judge);
        return switch (what) {
            case 0 -> j.age;
            case 1 -> j.mind;
            case 2 -> j.wig;
            case 3 -> j.dead ? 1 : 0;
            case 4 -> j.tried;
            case 5 -> dies(j);
            default -> -100;
        };
    }

    int trialOf(int trial, int what) {
        if (!isCase(trial)) {
            return -100000;
        }
        Case c = bench.cases.get(trial);
        return switch (what) {
            case 0 -> c.cause;
            case 1 -> c.merit;
            case 2 -> c.verdict == null ? -10000 : c.verdict;
            case 3 -> c.by;
            default -> -100000;
        };
    }

    int book(int i, int what) {
        return in(i, 0, bench.book.size() - 1) && in(what, 0, 3) ? bench.book.get(i)[what] : -10000;
    }

    // What is thought.

    int goes(int n, int what) {
        if (!in(n, 1, 60) || !in(what, 0, 3)) {
            return NONE;
        }
        Bench real = bench;
        bench = bench.copy();
        for (int i = 0; i < n; i++) {
            oneYear(true);
        }
        int answer = switch (what) {
            case 0 -> (int) bench.judges.stream().filter(j -> j.dead).count();
            case 1 -> bench.wigs.stream().mapToInt(w -> w.rules.size()).sum();
            case 2 -> bench.wigs.stream().mapToInt(w -> w.hair).sum();
            default -> (int) bench.cases.stream().filter(c -> c.verdict != null && c.verdict > 0).count();
        };
        bench = real;
        return answer;
    }

    int would(int trial, int judge) {
        return isCase(trial) && lives(judge) ? verdict(bench.cases.get(trial), bench.judges.get(judge)) : -10000;
    }

    int forum(int trial, int what) {
        if (!isCase(trial) || !in(what, 0, 1)) {
            return NONE;
        }
        int found = NONE;
        for (int j = bench.judges.size() - 1; j >= 0; j--) {
            if (lives(j) && (found == NONE || (what == 0 ? would(trial, j) >= would(trial, found)
                    : would(trial, j) <= would(trial, found)))) {
                found = j;
            }
        }
        return found;
    }

    int combs(int wig, int what) {
        if (!isWig(wig) || !in(what, 0, 1)) {
            return NONE;
        }
        List<Rule> rules = bench.wigs.get(wig).rules;
        int best = (1 << rules.size()) - 1;
        for (int set = best; set >= 0; set--) {
            if (agrees(rules, set) && Integer.bitCount(set) <= Integer.bitCount(best)) {
                best = set;
            }
        }
        return what == 0 ? Integer.bitCount(best) : best;
    }

    private static boolean agrees(List<Rule> rules, int without) {
        for (int a = 0; a < rules.size(); a++) {
            for (int b = 0; b < a; b++) {
                boolean both = (without >> a & 1) == 0 && (without >> b & 1) == 0;
                if (both && quarrel(rules.get(a), rules.get(b))) {
                    return false;
                }
            }
        }
        return true;
    }

    int alike(int a, int b) {
        if (!isWig(a) || b != NONE && !isWig(b)) {
            return NONE;
        }
        if (b != NONE) {
            int[] apart = new int[8];
            bench.wigs.get(a).rules.forEach(r -> apart[r.cause] += r.ruling);
            bench.wigs.get(b).rules.forEach(r -> apart[r.cause] -= r.ruling);
            return Arrays.stream(apart).map(Math::abs).sum();
        }
        int best = NONE;
        for (int w = bench.wigs.size() - 1; w >= 0; w--) {
            if (w != a && (best == NONE || alike(a, w) <= alike(a, best))) {
                best = w;
            }
        }
        return best;
    }

    int heir(int wig, int n) {
        if (!isWig(wig) || !in(n, 1, 9) || bench.wearer(wig) == NONE) {
            return NONE;
        }
        Bench real = bench;
        bench = bench.copy();
        int heir = bench.wearer(wig);
        for (int i = 0; i < n && heir != NONE; i++) {
            bench.judges.get(heir).dead = true;
            heir = passOn(bench.judges.get(heir));
        }
        bench = real;
        return heir;
    }

    /** All WIGS back from one, itself ahead; the one that comes again stands twice. */
    private List<Integer> back(int wig) {
        List<Integer> row = new ArrayList<>(List.of(wig));
        while (true) {
            int at = row.get(row.size() - 1);
            int next = told.kin.stream().filter(l -> l.a() == at).mapToInt(Line::b).findFirst().orElse(NONE);
            if (next == NONE) {
                return row;
            }
            boolean been = row.contains(next);
            row.add(next);
            if (been) {
                return row;
            }
        }
    }

    int kin(int a, int b) {
        if (!isWig(a) || b != NONE && !isWig(b)) {
            return NONE;
        }
        List<Integer> row = back(a);
        if (b == NONE) {
            return row.get(row.size() - 1);
        }
        return row.stream().filter(back(b)::contains).findFirst().orElse(NONE);
    }

    int saves(int w, int what) {
        if (!in(w, 1, 400) || !in(what, 0, 1)) {
            return NONE;
        }
        int best = 0;
        int most = 0;
        for (int set = (1 << bench.wigs.size()) - 1; set >= 0; set--) {
            int hair = 0;
            int worth = 0;
            for (int i = 0; i < bench.wigs.size(); i++) {
                if ((set >> i & 1) == 1) {
                    hair += bench.wigs.get(i).hair;
                    worth += bench.wigs.get(i).rules.size() + (bench.wigs.get(i).colour == 1 ? 3 : 0);
                }
            }
            if (hair <= w && worth >= most) {
                best = set;
                most = worth;
            }
        }
        return what == 0 ? most : best;
    }

    int panels(int trial, int what) {
        if (!isCase(trial) || what != 0 && !(in(what, 10, 19) && isJudge(what - 10))) {
            return NONE;
        }
        int found = 0;
        int turned = 0;
        for (int set = 0; set < 1 << bench.judges.size(); set++) {
            int all = 0;
            int yes = 0;
            boolean possible = Integer.bitCount(set) == 3;
            for (int j = 0; j < bench.judges.size() && possible; j++) {
                if ((set >> j & 1) == 1) {
                    possible = lives(j);
                    all++;
                    yes += would(trial, j) > 0 ? 1 : 0;
                }
            }
            if (!possible) {
                continue;
            }
            found += 2 * yes > all ? 1 : 0;
            if (what != 0 && (set >> what - 10 & 1) == 1) {
                int otherwise = would(trial, what - 10) > 0 ? yes - 1 : yes + 1;
                turned += 2 * yes > all != 2 * otherwise > all ? 1 : 0;
            }
        }
        return what == 0 ? found : turned;
    }

    int trait(int what, int v, boolean is) {
        if (what == NONE) {
            told.traits.clear();
            return 0;
        }
        int[] most = {2, 99, 7, 99};
        if (!in(what, 0, 3) || !in(v, 0, most[what]) || told.traits.size() == 8) {
            return NONE;
        }
        told.traits.add(new int[] {what, v, is ? 1 : 0});
        return told.traits.size();
    }

    int whose(int what) {
        if (!in(what, 0, 1)) {
            return NONE;
        }
        int set = 0;
        for (int i = 0; i < bench.wigs.size(); i++) {
            Wig w = bench.wigs.get(i);
            boolean all = told.traits.stream().allMatch(t -> (t[2] == 1) == switch (t[0]) {
                case 0 -> w.colour == t[1];
                case 1 -> w.hair >= t[1];
                case 2 -> w.rules.stream().anyMatch(r -> r.cause == t[1]);
                default -> w.lent >= t[1];
            });
            set += all ? 1 << i : 0;
        }
        if (what == 0) {
            return set;
        }
        return Integer.bitCount(set) < 2 ? NONE : lookAt(set);
    }

    private int lookAt(int set) {
        int best = NONE;
        int least = 99;
        for (int c = 0; c < 8; c++) {
            int cause = c;
            int with = 0;
            for (int i = 0; i < bench.wigs.size(); i++) {
                boolean has = bench.wigs.get(i).rules.stream().anyMatch(r -> r.cause == cause);
                with += (set >> i & 1) == 1 && has ? 1 : 0;
            }
            int greater = Math.max(with, Integer.bitCount(set) - with);
            if (greater < least) {
                least = greater;
                best = c;
            }
        }
        return best;
    }

    int cite(int a, int b) {
        if (a == NONE) {
            told.cites.clear();
            return 0;
        }
        if (!in(a, 0, 13) || !in(b, 0, 13) || a == b || told.cites.size() == 16) {
            return NONE;
        }
        told.cites.add(new int[] {a, b});
        return told.cites.size();
    }

    /** The longest row from a CASE, or 99 if one comes back to where one has been. */
    private int rowFrom(int c, int been) {
        if ((been >> c & 1) == 1) {
            return 99;
        }
        int longest = 1;
        for (int[] cite : told.cites) {
            if (cite[0] == c) {
                longest = Math.max(longest, Math.min(99, 1 + rowFrom(cite[1], been | 1 << c)));
            }
        }
        return longest;
    }

    int chain(int what) {
        if (!in(what, 0, 1)) {
            return NONE;
        }
        if (told.cites.isEmpty()) {
            return what == 0 ? 0 : NONE;
        }
        int first = 0;
        for (int c = 0; c < 14; c++) {
            if (rowFrom(c, 0) >= 99) {
                return NONE;
            }
            first = rowFrom(c, 0) > rowFrom(first, 0) ? c : first;
        }
        return what == 0 ? rowFrom(first, 0) : first;
    }

    boolean parcel(int k, int to, int v) {
        if (!in(k, 0, 9) || !in(to, 0, 1) || !in(v, 0, 99)) {
            return false;
        }
        told.worth[to][k] = v;
        return true;
    }

    private int part(int to, int from, int until) {
        return Arrays.stream(told.worth[to], from, until).sum();
    }

    int cut(int what) {
        int place = 9;
        for (int p = 8; p >= 1; p--) {
            if (Math.min(part(0, 0, p), part(0, p, 10)) >= Math.min(part(0, 0, place), part(0, place, 10))) {
                place = p;
            }
        }
        boolean first = part(1, 0, place) >= part(1, place, 10);
        return switch (what) {
            case 0 -> place;
            case 1 -> first ? part(1, 0, place) : part(1, place, 10);
            case 2 -> first ? part(0, place, 10) : part(0, 0, place);
            default -> NONE;
        };
    }

    int hard(int hours, int due) {
        if (hours == NONE) {
            told.hards.clear();
            return 0;
        }
        if (!in(hours, 1, 24) || !in(due, 0, 99) || told.hards.size() == 7) {
            return NONE;
        }
        told.hards.add(new int[] {hours, due});
        return told.hards.size();
    }

    private int bestLate;
    private List<Integer> bestOrder;

    private void orders(List<Integer> order, int hour, int late) {
        if (order.size() == told.hards.size()) {
            if (bestOrder == null || late < bestLate) {
                bestLate = late;
                bestOrder = new ArrayList<>(order);
            }
            return;
        }
        for (int i = 0; i < told.hards.size(); i++) {
            if (!order.contains(i)) {
                int ends = hour + told.hards.get(i)[0];
                order.add(i);
                orders(order, ends, Math.max(late, ends - told.hards.get(i)[1]));
                order.remove(order.size() - 1);
            }
        }
    }

    int hears(int what) {
        bestOrder = null;
        orders(new ArrayList<>(), 0, 0);
        if (what == 0) {
            return bestLate;
        }
        return what >= 10 && what - 10 < bestOrder.size() ? bestOrder.get(what - 10) : NONE;
    }

    private boolean wins(int[] rows, Map<String, Boolean> known) {
        int[] sorted = rows.clone();
        Arrays.sort(sorted);
        String key = Arrays.toString(sorted);
        if (known.containsKey(key)) {
            return known.get(key);
        }
        boolean won = move(sorted, known) != null;
        known.put(key, won);
        return won;
    }

    private int[] move(int[] rows, Map<String, Boolean> known) {
        for (int w = 0; w < rows.length; w++) {
            for (int pull = 1; pull <= rows[w]; pull++) {
                int[] next = rows.clone();
                next[w] -= pull;
                if (!wins(next, known)) {
                    return new int[] {w, pull};
                }
            }
        }
        return null;
    }

    private final Map<String, Boolean> knownGames = new HashMap<>();

    int game(int what) {
        if (!in(what, 0, 1)) {
            return NONE;
        }
        int[] move = move(bench.wigs.stream().mapToInt(w -> w.rules.size()).toArray(), knownGames);
        return move == null ? NONE : move[what];
    }

    // Back.

    boolean undo() {
        if (past.isEmpty()) {
            return false;
        }
        bench = past.removeLast();
        return true;
    }

    boolean image(boolean taken) {
        if (taken) {
            benchImage = bench.copy();
            toldImage = told.copy();
            return true;
        }
        if (benchImage == null) {
            return false;
        }
        bench = benchImage.copy();
        told = toldImage.copy();
        past.clear();
        return true;
    }

    int look(int what) {
        int dead = 0;
        for (int j = 0; j < bench.judges.size(); j++) {
            dead += bench.judges.get(j).dead ? 1 << j : 0;
        }
        int open = 0;
        for (int c = 0; c < bench.cases.size(); c++) {
            open += bench.cases.get(c).verdict == null ? 1 << c : 0;
        }
        int[] all = {bench.wigs.size(), bench.judges.size(), bench.cases.size(), bench.year, dead, open,
            bench.book.size(), bench.state, told.law.size(), told.docket.size(), told.loans.size(),
            told.kin.size(), past.size()};
        return in(what, 0, all.length - 1) ? all[what] : NONE;
    }
}
