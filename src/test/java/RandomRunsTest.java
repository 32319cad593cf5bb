import java.util.Random;

/** Runs of 512 calls, most of them sensible and some wild, each answered by WornWigs and by the Model. */
public final class RandomRunsTest {
    private static final int RUNS = 2000;
    private static final int CALLS = 512;
    private static final String[] WORDS = {"age", "mind", "colour", "hair", "itch", "lent", "cause", "weight",
        "tried", "year"};

    private final Random random;
    private final WornWigs x = new WornWigs();
    private final Model m = new Model();
    private final StringBuilder told = new StringBuilder();

    private RandomRunsTest(long seed) {
        random = new Random(seed);
    }

    public static void main(String[] args) {
        Checks checks = new Checks();
        for (int run = 0; run < RUNS; run++) {
            String wrong = new RandomRunsTest(run).wrongOfRun();
            checks.due("run " + run + wrong, 0, wrong.isEmpty() ? 0 : 1);
            if (!wrong.isEmpty()) {
                break;
            }
        }
        checks.end();
    }

    private String wrongOfRun() {
        furnish();
        for (int i = 0; i < CALLS; i++) {
            boolean same = random.nextInt(25) == 0 ? tellText() : sameAnswer(random.nextInt(40));
            if (!same || i % 32 == 31 && !sameThroughout()) {
                return told.toString();
            }
        }
        return "";
    }

    /** All that can be read without thought. */
    private boolean sameThroughout() {
        boolean same = true;
        for (int what = 0; what <= 13; what++) {
            same &= call("look", what);
            for (int i = 0; i < 14; i++) {
                same &= call("of", i, what) && call("who", i, what) && call("trialOf", i, what);
            }
        }
        for (int i = 0; i < 64; i++) {
            for (int what = 0; what <= 20; what++) {
                same &= call("ruleOf", i / 8, i % 8, what);
            }
        }
        for (int i = 0; i < x.look(6); i++) {
            for (int what = 0; what < 4; what++) {
                same &= call("book", i, what);
            }
        }
        return same;
    }

    private void furnish() {
        int wigs = upTo(8);
        int judges = upTo(10);
        int cases = upTo(14);
        for (int i = 0; i < wigs; i++) {
            call("wig", random.nextInt(3), random.nextInt(100));
        }
        for (int i = 0; i < judges; i++) {
            call("judge", random.nextInt(random.nextBoolean() ? 121 : 60), random.nextInt(19) - 9);
        }
        for (int i = 0; i < cases; i++) {
            call("trial", random.nextInt(random.nextBoolean() ? 8 : 2), random.nextInt(199) - 99);
        }
        for (int i = 0; i < wigs * 3; i++) {
            call("rule", random.nextInt(wigs), random.nextInt(3), random.nextInt(19) - 9, 1 + random.nextInt(99));
        }
        for (int i = 0; i < judges; i++) {
            call("act", 0, i, i);
        }
    }

    /** Mostly as many as there can be, so that what is asked for is mostly there. */
    private int upTo(int most) {
        return random.nextInt(3) > 0 ? most : random.nextInt(most + 1);
    }

    /** Mostly 0 .. most, now and then just outside, now and then far away. */
    private int some(int most) {
        int luck = random.nextInt(60);
        if (luck == 0) {
            int[] far = {Integer.MIN_VALUE, Integer.MAX_VALUE, -2, -9, 1000, 65536, -100, 1 << 30};
            return far[random.nextInt(far.length)];
        }
        if (luck < 4) {
            return random.nextBoolean() ? -1 : most + 1;
        }
        return random.nextInt(most + 1);
    }

    private int either(int most) {
        int v = some(most);
        return random.nextBoolean() ? v : -v;
    }

    private boolean sameAnswer(int which) {
        switch (which) {
            case 0: return random.nextInt(9) != 0 || call("state", random.nextInt());
            case 1: return random.nextInt(9) != 0 || call("wig", some(2), some(99));
            case 2: return random.nextInt(9) != 0 || call("judge", some(120), either(9));
            case 3: return random.nextInt(9) != 0 || call("trial", some(7), either(99));
            case 4: return random.nextInt(4) != 0 || call("rule", some(7), some(3), either(9), 1 + some(98));
            case 5: return random.nextInt(5) != 0 || call("set", some(3), some(9), either(random.nextBoolean() ? 9 : 120));
            case 6: case 7: return call("tries", some(13), some(9));
            case 8: case 9: case 10: return call("act", some(3), some(7), some(random.nextBoolean() ? 9 : 99));
            case 11: return call("years", 1 + some(random.nextInt(6) == 0 ? 59 : 3));
            case 12: return call("feed", random.nextInt(), random.nextInt(), 32, 1 << 30, 0);
            case 13: return call("end", some(400));
            case 14: return call("fault", some(1));
            case 15: return call("of", some(7), some(6));
            case 16: return call("ruleOf", some(7), some(7), random.nextBoolean() ? some(2) : 10 + some(9));
            case 17: return call("who", some(9), some(5));
            case 18: return call("trialOf", some(13), some(3));
            case 19: return call("book", some(random.nextBoolean() ? 149 : 30), some(3));
            case 20: return call("goes", 1 + some(59), some(3));
            case 21: return call("would", some(13), some(9));
            case 22: return call("forum", some(13), some(1));
            case 23: return call("combs", some(7), some(1));
            case 24: return call("alike", some(7), random.nextBoolean() ? -1 : some(7));
            case 25: return call("heir", some(7), 1 + some(8));
            case 26: return call("kin", some(7), random.nextBoolean() ? -1 : some(7));
            case 27: return call("saves", 1 + some(399), some(1));
            case 28: return call("panels", some(13), random.nextBoolean() ? some(0) : 10 + some(9));
            case 29: return call("trait", random.nextInt(5) == 0 ? -1 : some(3), some(random.nextInt(4) == 0 ? 99 : 4),
                    random.nextBoolean() ? 1 : 0);
            case 30: return call("whose", some(1));
            case 31: return call("cite", random.nextInt(20) == 0 ? -1 : some(13), some(13));
            case 32: return call("chain", some(1));
            case 33: return call("parcel", some(9), some(1), some(99));
            case 34: return call("cut", some(2));
            case 35: return call("hard", random.nextInt(9) == 0 ? -1 : 1 + some(23), some(random.nextBoolean() ? 30 : 99));
            case 36: return random.nextInt(8) != 0 || call("hears", random.nextBoolean() ? some(0) : 10 + some(6));
            case 37: return call("game", some(1));
            case 38: return call("undo");
            default: return random.nextInt(3) == 0 ? call("image", random.nextInt(2)) : call("look", some(12));
        }
    }

    private boolean call(String name, int... a) {
        int got = answerOfClass(name, a);
        int want = answerOfModel(name, a);
        told.append("\n  ").append(name).append(java.util.Arrays.toString(a)).append(" answered ").append(got);
        if (got != want) {
            told.append(", the model ").append(want);
        }
        return got == want;
    }

    private boolean tellText() {
        int k = random.nextInt(4);
        String text = k == 0 ? someLaw() : someLines(k);
        if (random.nextInt(3) == 0) {
            text = spoilt(text);
        }
        text = text.substring(0, Math.min(400, text.length()));
        told.append("\n  '").append(text).append("'");
        byte[] bytes = Checks.bytesOf(text);
        boolean same = call("end", 0);
        for (int at = 0; at < bytes.length; at += 20) {
            same &= call("feed", Checks.fiveOf(bytes, at));
        }
        same &= call("end", bytes.length);
        same &= call("text", random.nextInt(40) == 0 ? some(3) : k);
        return same & call("fault", 0) & call("fault", 1) & call("look", 8 + k) & call("look", 12);
    }

    private String spoilt(String text) {
        StringBuilder s = new StringBuilder(text);
        for (int i = random.nextInt(3); i >= 0 && s.length() > 0; i--) {
            int at = random.nextInt(s.length());
            String signs = " ;+-*/()<=>0123456789abcnotAZ.,\n\t\u00e9";
            char c = signs.charAt(random.nextInt(signs.length()));
            switch (random.nextInt(3)) {
                case 0: s.setCharAt(at, c); break;
                case 1: s.insert(at, c); break;
                default: s.deleteCharAt(at); break;
            }
        }
        return s.toString();
    }

    private String someLaw() {
        StringBuilder s = new StringBuilder();
        int lines = random.nextInt(12) == 0 ? 14 + random.nextInt(4) : random.nextInt(6);
        for (int i = 0; i < lines; i++) {
            s.append(new String[] {"counts ", "moth ", "dies "}[random.nextInt(3)]);
            s.append(lines > 9 ? "1" : someSum());
            if (lines <= 9 && random.nextInt(3) > 0) {
                s.append(" when ").append(someCondition(random.nextInt(6)));
            }
            s.append(random.nextBoolean() ? ";" : " ;\n");
        }
        return s.toString();
    }

    private String someSum() {
        StringBuilder s = new StringBuilder(someUnit());
        for (int i = random.nextInt(4); i > 0; i--) {
            if (random.nextInt(4) == 0) {
                s.append("/").append(random.nextInt(random.nextInt(9) == 0 ? 2 : 30) + (random.nextInt(30) == 0 ? 0 : 1));
            } else {
                s.append("+-*".charAt(random.nextInt(3))).append(someUnit());
            }
        }
        return s.toString();
    }

    private String someUnit() {
        return random.nextBoolean() ? WORDS[random.nextInt(10)] : "" + random.nextInt(random.nextBoolean() ? 10 : 10000);
    }

    private String someCondition(int depth) {
        int kind = random.nextInt(6);
        if (depth == 0 || kind == 0) {
            return someUnit() + "<=>".charAt(random.nextInt(3)) + someSum();
        }
        switch (kind) {
            case 1: return "not " + someCondition(depth - 1);
            case 2: return "(" + someCondition(depth - 1) + ")";
            case 3: return someCondition(depth - 1) + " and " + someCondition(depth - 1);
            case 4: return someCondition(depth - 1) + " or " + someCondition(depth - 1);
            default: return (random.nextInt(9) == 0 ? "not((((not not(" : "not (") + someCondition(depth - 1)
                    + (random.nextInt(9) == 0 ? ")))))" : ")");
        }
    }

    private String someLines(int k) {
        StringBuilder s = new StringBuilder();
        int lines = random.nextInt(12) == 0 ? 15 + random.nextInt(3) : random.nextInt(6);
        for (int i = 0; i < lines; i++) {
            s.append(k == 3 ? "wig " + some(m.bench.wigs.size()) + " of " + some(m.bench.wigs.size()) : planLine(k));
            s.append(random.nextBoolean() ? ";" : " ;\n");
        }
        return s.toString().replace("-", "");
    }

    private String planLine(int k) {
        int year = random.nextInt(20) == 0 ? 995 + random.nextInt(9) : m.bench.year + random.nextInt(6);
        String line = "in " + year + " ";
        int wig = some(Math.max(0, m.bench.wigs.size() - 1));
        int judge = some(Math.max(0, m.bench.judges.size() - 1));
        if (k == 1) {
            return line + "case " + some(Math.max(0, m.bench.cases.size() - 1)) + " before " + judge;
        }
        switch (random.nextInt(4)) {
            case 0: return line + "wig " + wig + " on " + judge;
            case 1: return line + "off " + wig;
            case 2: return line + "comb " + wig + " " + some(7);
            default: return line + "brush " + wig + " " + some(99);
        }
    }

    private static int bit(boolean is) {
        return is ? 1 : 0;
    }

    private int answerOfClass(String name, int... a) {
        switch (name) {
            case "state": return x.state(a[0]);
            case "wig": return x.wig(a[0], a[1]);
            case "judge": return x.judge(a[0], a[1]);
            case "trial": return x.trial(a[0], a[1]);
            case "rule": return x.rule(a[0], a[1], a[2], a[3]);
            case "set": return bit(x.set(a[0], a[1], a[2]));
            case "tries": return x.tries(a[0], a[1]);
            case "act": return bit(x.act(a[0], a[1], a[2]));
            case "years": return x.years(a[0]);
            case "feed": return x.feed(a[0], a[1], a[2], a[3], a[4]);
            case "end": return bit(x.end(a[0]));
            case "text": return x.text(a[0]);
            case "fault": return x.fault(a[0]);
            case "of": return x.of(a[0], a[1]);
            case "ruleOf": return x.ruleOf(a[0], a[1], a[2]);
            case "who": return x.who(a[0], a[1]);
            case "trialOf": return x.trialOf(a[0], a[1]);
            case "book": return x.book(a[0], a[1]);
            case "goes": return x.goes(a[0], a[1]);
            case "would": return x.would(a[0], a[1]);
            case "forum": return x.forum(a[0], a[1]);
            case "combs": return x.combs(a[0], a[1]);
            case "alike": return x.alike(a[0], a[1]);
            case "heir": return x.heir(a[0], a[1]);
            case "kin": return x.kin(a[0], a[1]);
            case "saves": return x.saves(a[0], a[1]);
            case "panels": return x.panels(a[0], a[1]);
            case "trait": return x.trait(a[0], a[1], a[2] == 1);
            case "whose": return x.whose(a[0]);
            case "cite": return x.cite(a[0], a[1]);
            case "chain": return x.chain(a[0]);
            case "parcel": return bit(x.parcel(a[0], a[1], a[2]));
            case "cut": return x.cut(a[0]);
            case "hard": return x.hard(a[0], a[1]);
            case "hears": return x.hears(a[0]);
            case "game": return x.game(a[0]);
            case "undo": return bit(x.undo());
            case "image": return bit(x.image(a[0] == 1));
            default: return x.look(a[0]);
        }
    }

    private int answerOfModel(String name, int... a) {
        switch (name) {
            case "state": return m.state(a[0]);
            case "wig": return m.wig(a[0], a[1]);
            case "judge": return m.judge(a[0], a[1]);
            case "trial": return m.trial(a[0], a[1]);
            case "rule": return m.rule(a[0], a[1], a[2], a[3]);
            case "set": return bit(m.set(a[0], a[1], a[2]));
            case "tries": return m.tries(a[0], a[1]);
            case "act": return bit(m.act(a[0], a[1], a[2]));
            case "years": return m.years(a[0]);
            case "feed": return m.feed(a[0], a[1], a[2], a[3], a[4]);
            case "end": return bit(m.end(a[0]));
            case "text": return m.text(a[0]);
            case "fault": return m.fault(a[0]);
            case "of": return m.of(a[0], a[1]);
            case "ruleOf": return m.ruleOf(a[0], a[1], a[2]);
            case "who": return m.who(a[0], a[1]);
            case "trialOf": return m.trialOf(a[0], a[1]);
            case "book": return m.book(a[0], a[1]);
            case "goes": return m.goes(a[0], a[1]);
            case "would": return m.would(a[0], a[1]);
            case "forum": return m.forum(a[0], a[1]);
            case "combs": return m.combs(a[0], a[1]);
            case "alike": return m.alike(a[0], a[1]);
            case "heir": return m.heir(a[0], a[1]);
            case "kin": return m.kin(a[0], a[1]);
            case "saves": return m.saves(a[0], a[1]);
            case "panels": return m.panels(a[0], a[1]);
            case "trait": return m.trait(a[0], a[1], a[2] == 1);
            case "whose": return m.whose(a[0]);
            case "cite": return m.cite(a[0], a[1]);
            case "chain": return m.chain(a[0]);
            case "parcel": return bit(m.parcel(a[0], a[1], a[2]));
            case "cut": return m.cut(a[0]);
            case "hard": return m.hard(a[0], a[1]);
            case "hears": return m.hears(a[0]);
            case "game": return m.game(a[0]);
            case "undo": return bit(m.undo());
            case "image": return bit(m.image(a[0] == 1));
            default: return m.look(a[0]);
        }
    }
}
