import java.util.Arrays;

/**
 * Wigs that have their law, the judges on whom they sit down with it, and the cases that are tried so.
 * The words in capitals in the comments are those of the document.
 */
public final class WornWigs {
    public static final int NONE = -1;

    private static final int NO_RULE = NONE - 99;
    private static final int NO_VERDICT = NONE - 9999;
    private static final int NO_CASE = NONE - 99999;

    private static final int CAUSES = 8;
    private static final int MOST_WIGS = 8;
    private static final int MOST_RULES = 8;
    private static final int MOST_JUDGES = 10;
    private static final int MOST_CASES = 14;
    private static final int MOST_BOOK = 150;
    private static final int MOST_LINES = 16;
    private static final int MOST_TAPE = 400;
    private static final int MOST_OPEN = 8;
    private static final int MOST_UNDONE = 6;
    private static final int MOST_TRAITS = 8;
    private static final int MOST_CITES = 16;
    private static final int MOST_HARD = 7;
    private static final int PARCELS = 10;
    private static final int LAST_YEAR = 9999;
    private static final int LAST_PLANNED_YEAR = 999;
    private static final int YEARS_AT_ONCE = 60;
    private static final int OLDEST = 120;
    private static final int KEENEST = 9;
    private static final int FULL = 99;

    // What THE BOOK tells.
    private static final int TRIED = 0;
    private static final int PUT_ON = 1;
    private static final int DIED = 2;
    private static final int EATEN = 3;
    private static final int COMBED = 4;

    // What is done to a WIG by hand or by a line of LOANS.
    private static final int TO_PUT_ON = 0;
    private static final int TO_TAKE_OFF = 1;
    private static final int TO_COMB = 2;
    private static final int TO_BRUSH = 3;

    // TOKENS: a sign is told by its own byte, a KEYWORD by WORD and its place in WORDS.
    private static final int BAD = 0;
    private static final int END = 1;
    private static final int NUMBER = 2;
    private static final int FACT = 3;
    private static final int WORD = 256;
    private static final String WORDS = "age mind colour hair itch lent cause weight tried year counts moth dies when or and not in case before wig on off comb brush of ";

    // The first ten of WORDS are what a line of THE LAW may ask for.
    private static final int ASKED_AGE = 0;
    private static final int ASKED_MIND = 1;
    private static final int ASKED_COLOUR = 2;
    private static final int ASKED_HAIR = 3;
    private static final int ASKED_ITCH = 4;
    private static final int ASKED_LENT = 5;
    private static final int ASKED_CAUSE = 6;
    private static final int ASKED_WEIGHT = 7;
    private static final int ASKED_TRIED = 8;
    private static final int ASKED_YEAR = 9;
    private static final int FACTS = 10;

    private static final int COUNTS = WORD + 10;
    private static final int MOTH = WORD + 11;
    private static final int DIES = WORD + 12;
    private static final int WHEN = WORD + 13;
    private static final int OR = WORD + 14;
    private static final int AND = WORD + 15;
    private static final int NOT = WORD + 16;
    private static final int IN = WORD + 17;
    private static final int CASE = WORD + 18;
    private static final int BEFORE = WORD + 19;
    private static final int WIG = WORD + 20;
    private static final int ON = WORD + 21;
    private static final int OFF = WORD + 22;
    private static final int COMB = WORD + 23;
    private static final int BRUSH = WORD + 24;
    private static final int OF = WORD + 25;

    // FAULTS.
    private static final int CANNOT_STAND = 1;
    private static final int OUT_OF_BOUNDS = 2;
    private static final int TOO_MANY = 3;

    // TEXTS.
    private static final int THE_LAW = 0;
    private static final int DOCKET = 1;
    private static final int LOANS = 2;
    private static final int KIN = 3;

    // TRAITS.
    private static final int OF_COLOUR = 0;
    private static final int OF_HAIR = 1;
    private static final int OF_CAUSE = 2;
    private static final int OF_LENT = 3;

    private final World now = new World();
    private final World asTaken = new World();
    private final Past past = new Past();
    private final Reader reader = new Reader(now);
    private final Court court = new Court(now);
    private final Thought thought = new Thought(now, court);
    private boolean hasImage;

    public WornWigs() {
    }

    public int state(int v) {
        int was = now.bench.draws;
        past.forget();
        now.bench.draws = v;
        return was;
    }

    public int wig(int colour, int hair) {
        Wigs wigs = now.bench.wigs;
        if (wigs.count >= MOST_WIGS || !within(colour, 0, 2) || !within(hair, 0, FULL)) {
            return NONE;
        }
        past.forget();
        return wigs.add(colour, hair);
    }

    public int judge(int age, int mind) {
        Judges judges = now.bench.judges;
        if (judges.count >= MOST_JUDGES || !within(age, 0, OLDEST) || !within(mind, -KEENEST, KEENEST)) {
            return NONE;
        }
        past.forget();
        return judges.add(age, mind);
    }

    public int trial(int cause, int merit) {
        Bench bench = now.bench;
        if (bench.cases >= MOST_CASES || !within(cause, 0, CAUSES - 1) || !within(merit, -FULL, FULL)) {
            return NONE;
        }
        past.forget();
        return bench.addCase(cause, merit);
    }

    public int rule(int wig, int cause, int ruling, int weight) {
        Wigs wigs = now.bench.wigs;
        if (!wigs.has(wig) || wigs.rules[wig] >= MOST_RULES || !within(cause, 0, CAUSES - 1)) {
            return NONE;
        }
        if (!within(ruling, -KEENEST, KEENEST) || !within(weight, 1, FULL)) {
            return NONE;
        }
        past.forget();
        wigs.addRule(wig, cause, ruling, weight);
        return wigs.rules[wig];
    }

    public boolean set(int what, int who, int v) {
        Bench bench = now.bench;
        switch (what) {
            case 0:
                return bench.judges.has(who) && tellAnew(bench.judges.age, who, v, 0, OLDEST);
            case 1:
                return bench.judges.has(who) && tellAnew(bench.judges.mind, who, v, -KEENEST, KEENEST);
            case 2:
                return bench.wigs.has(who) && tellAnew(bench.wigs.hair, who, v, 0, FULL);
            case 3:
                return bench.hasCase(who) && tellAnew(bench.merit, who, v, -FULL, FULL);
            default:
                return false;
        }
    }

    private boolean tellAnew(int[] row, int who, int v, int least, int most) {
        if (!within(who, 0, row.length - 1) || !within(v, least, most)) {
            return false;
        }
        past.forget();
        row[who] = v;
        return true;
    }

    public int tries(int trial, int judge) {
        if (!court.canTry(trial, judge)) {
            return NO_VERDICT;
        }
        past.remember(now.bench);
        court.tryCase(trial, judge);
        return now.bench.verdict[trial];
    }

    public boolean act(int what, int who, int v) {
        if (!court.canDo(what, who, v)) {
            return false;
        }
        past.remember(now.bench);
        court.doTo(what, who, v);
        return true;
    }

    public int years(int n) {
        if (!within(n, 1, YEARS_AT_ONCE) || now.bench.year > LAST_YEAR - n) {
            return NONE;
        }
        int died = 0;
        for (int i = 0; i < n; i++) {
            // Of many years only the last ones would be kept anyway.
            if (i >= n - MOST_UNDONE) {
                past.remember(now.bench);
            }
            died += court.passYear();
        }
        return died;
    }

    public int feed(int a, int b, int c, int d, int e) {
        if (!reader.hasRoomFor(20)) {
            return NONE;
        }
        reader.addNumber(a);
        reader.addNumber(b);
        reader.addNumber(c);
        reader.addNumber(d);
        reader.addNumber(e);
        return reader.length;
    }

    public boolean end(int n) {
        if (!within(n, 0, reader.length)) {
            return false;
        }
        reader.length = n;
        return true;
    }

    public int text(int k) {
        reader.begin();
        if (k == THE_LAW) {
            return reader.readLaw() ? now.law.lines : NONE;
        }
        if (!within(k, DOCKET, KIN) || !reader.readLines(k)) {
            return NONE;
        }
        if (k != KIN) {
            past.forget();
        }
        return reader.lines.count;
    }

    public int fault(int what) {
        switch (what) {
            case 0:
                return reader.faultFound;
            case 1:
                return reader.faultPlace;
            default:
                return NONE;
        }
    }

    public int of(int wig, int what) {
        Wigs wigs = now.bench.wigs;
        if (!wigs.has(wig)) {
            return NONE - 1;
        }
        switch (what) {
            case 0:
                return wigs.colour[wig];
            case 1:
                return wigs.hair[wig];
            case 2:
                return wigs.itch[wig];
            case 3:
                return wigs.lent[wig];
            case 4:
                return now.bench.judges.wearer(wig);
            case 5:
                return wigs.rules[wig];
            case 6:
                return court.mothOf(wig);
            default:
                return NONE - 1;
        }
    }

    public int ruleOf(int wig, int i, int what) {
        Wigs wigs = now.bench.wigs;
        if (!wigs.hasRule(wig, i)) {
            return NO_RULE;
        }
        int at = wig * MOST_RULES + i;
        switch (what) {
            case 0:
                return wigs.cause[at];
            case 1:
                return wigs.ruling[at];
            case 2:
                return wigs.weight[at];
            default:
                boolean asksJudge = what >= 10 && now.bench.judges.has(what - 10);
                return asksJudge ? court.countsOf(wig, i, what - 10) : NO_RULE;
        }
    }

    public int who(int judge, int what) {
        Judges judges = now.bench.judges;
        if (!judges.has(judge)) {
            return NONE - 99;
        }
        switch (what) {
            case 0:
                return judges.age[judge];
            case 1:
                return judges.mind[judge];
            case 2:
                return judges.worn[judge];
            case 3:
                return judges.dead[judge];
            case 4:
                return judges.tried[judge];
            case 5:
                return court.diesOf(judge);
            default:
                return NONE - 99;
        }
    }

    public int trialOf(int trial, int what) {
        Bench bench = now.bench;
        if (!bench.hasCase(trial)) {
            return NO_CASE;
        }
        switch (what) {
            case 0:
                return bench.cause[trial];
            case 1:
                return bench.merit[trial];
            case 2:
                return bench.verdict[trial];
            case 3:
                return bench.by[trial];
            default:
                return NO_CASE;
        }
    }

    public int book(int i, int what) {
        if (!within(i, 0, now.bench.bookLines - 1)) {
            return NO_VERDICT;
        }
        switch (what) {
            case 0:
                return now.pages.year[i];
            case 1:
                return now.pages.what[i];
            case 2:
                return now.pages.first[i];
            case 3:
                return now.pages.second[i];
            default:
                return NO_VERDICT;
        }
    }

    public int goes(int n, int what) {
        if (!within(n, 1, YEARS_AT_ONCE) || !within(what, 0, 3)) {
            return NONE;
        }
        court.beginThought();
        for (int i = 0; i < n; i++) {
            court.passYear();
        }
        int answer = now.bench.sumUp(what);
        court.endThought();
        return answer;
    }

    public int would(int trial, int judge) {
        if (!now.bench.hasCase(trial) || !now.bench.judges.lives(judge)) {
            return NO_VERDICT;
        }
        return court.verdictOf(trial, judge);
    }

    public int forum(int trial, int what) {
        if (!now.bench.hasCase(trial) || !within(what, 0, 1)) {
            return NONE;
        }
        return thought.forumOf(trial, what == 0);
    }

    public int combs(int wig, int what) {
        if (!now.bench.wigs.has(wig) || !within(what, 0, 1)) {
            return NONE;
        }
        int combed = now.bench.wigs.toComb(wig);
        return what == 0 ? Integer.bitCount(combed) : combed;
    }

    public int alike(int a, int b) {
        Wigs wigs = now.bench.wigs;
        if (!wigs.has(a)) {
            return NONE;
        }
        if (b == NONE) {
            return wigs.nearest(a);
        }
        return wigs.has(b) ? wigs.apart(a, b) : NONE;
    }

    public int heir(int wig, int n) {
        if (!now.bench.wigs.has(wig) || !within(n, 1, 9)) {
            return NONE;
        }
        return thought.heirOf(wig, n);
    }

    public int kin(int a, int b) {
        Wigs wigs = now.bench.wigs;
        if (!wigs.has(a)) {
            return NONE;
        }
        if (b == NONE) {
            return thought.rootOf(a);
        }
        return wigs.has(b) ? thought.commonOf(a, b) : NONE;
    }

    public int saves(int w, int what) {
        if (!within(w, 1, 400) || !within(what, 0, 1)) {
            return NONE;
        }
        int saved = now.bench.wigs.toSave(w);
        return what == 0 ? now.bench.wigs.worthOf(saved) : saved;
    }

    public int panels(int trial, int what) {
        if (!now.bench.hasCase(trial)) {
            return NONE;
        }
        if (what == 0) {
            return thought.panelsFor(trial);
        }
        if (what < 10 || !now.bench.judges.has(what - 10)) {
            return NONE;
        }
        return thought.turnsOf(trial, what - 10);
    }

    public int trait(int what, int v, boolean is) {
        if (what == NONE) {
            now.told.traits = 0;
            return 0;
        }
        return now.told.addTrait(what, v, is ? 1 : 0);
    }

    public int whose(int what) {
        switch (what) {
            case 0:
                return thought.whoseSet();
            case 1:
                return thought.causeToLookAt();
            default:
                return NONE;
        }
    }

    public int cite(int a, int b) {
        if (a == NONE) {
            now.told.cites = 0;
            return 0;
        }
        return now.told.addCite(a, b);
    }

    public int chain(int what) {
        return within(what, 0, 1) ? now.told.longestRow(what == 1) : NONE;
    }

    public boolean parcel(int k, int to, int v) {
        if (!within(k, 0, PARCELS - 1) || !within(to, 0, 1) || !within(v, 0, FULL)) {
            return false;
        }
        now.told.worth[to * PARCELS + k] = v;
        return true;
    }

    public int cut(int what) {
        switch (what) {
            case 0:
                return now.told.cutPlace();
            case 1:
                return now.told.otherHas();
            case 2:
                return now.told.oneHas();
            default:
                return NONE;
        }
    }

    public int hard(int hours, int due) {
        if (hours == NONE) {
            now.told.hards = 0;
            return 0;
        }
        return now.told.addHard(hours, due);
    }

    public int hears(int what) {
        if (what == 0) {
            return now.told.lateness(0, 0);
        }
        if (what < 10 || what - 10 >= now.told.hards) {
            return NONE;
        }
        return now.told.heardAt(what - 10);
    }

    public int game(int what) {
        if (!within(what, 0, 1)) {
            return NONE;
        }
        return now.bench.wigs.wellPulled(what == 0);
    }

    public boolean undo() {
        return past.goBack(now.bench);
    }

    public boolean image(boolean taken) {
        if (taken) {
            asTaken.copyFrom(now);
            hasImage = true;
            return true;
        }
        if (!hasImage) {
            return false;
        }
        now.copyFrom(asTaken);
        past.forget();
        return true;
    }

    public int look(int what) {
        Bench bench = now.bench;
        switch (what) {
            case 0:
                return bench.wigs.count;
            case 1:
                return bench.judges.count;
            case 2:
                return bench.cases;
            case 3:
                return bench.year;
            case 4:
                return bench.judges.deadSet();
            case 5:
                return bench.openSet();
            case 6:
                return bench.bookLines;
            case 7:
                return bench.draws;
            case 8:
                return now.law.lines;
            case 9:
                return now.docket.count;
            case 10:
                return now.loans.count;
            case 11:
                return now.descent.count;
            case 12:
                return past.count;
            default:
                return NONE;
        }
    }

    private static boolean within(int v, int least, int most) {
        return v >= least && v <= most;
    }

    private static int held(int v, int least, int most) {
        return Math.max(least, Math.min(most, v));
    }

    private static void copyRow(int[] from, int[] to) {
        System.arraycopy(from, 0, to, 0, Math.min(from.length, to.length));
    }

    /** All WIGS, row by row; RULE i of WIG w stands at w * MOST_RULES + i. */
    private static final class Wigs {
        final int[] colour = new int[MOST_WIGS];
        final int[] hair = new int[MOST_WIGS];
        final int[] itch = new int[MOST_WIGS];
        final int[] lent = new int[MOST_WIGS];
        final int[] rules = new int[MOST_WIGS];
        final int[] cause = new int[MOST_WIGS * MOST_RULES];
        final int[] ruling = new int[MOST_WIGS * MOST_RULES];
        final int[] weight = new int[MOST_WIGS * MOST_RULES];
        int count;

        void copyFrom(Wigs other) {
            copyRow(other.colour, colour);
            copyRow(other.hair, hair);
            copyRow(other.itch, itch);
            copyRow(other.lent, lent);
            copyRow(other.rules, rules);
            copyRow(other.cause, cause);
            copyRow(other.ruling, ruling);
            copyRow(other.weight, weight);
            count = other.count;
        }

        boolean has(int w) {
            return w >= 0 && w < count;
        }

        boolean hasRule(int w, int i) {
            return has(w) && i >= 0 && i < rules[w];
        }

        int add(int itsColour, int itsHair) {
            if (count >= MOST_WIGS) {
                return NONE;
            }
            colour[count] = itsColour;
            hair[count] = itsHair;
            itch[count] = 0;
            lent[count] = 0;
            rules[count] = 0;
            count++;
            return count - 1;
        }

        void addRule(int w, int itsCause, int itsRuling, int itsWeight) {
            if (rules[w] >= MOST_RULES) {
                return;
            }
            int at = w * MOST_RULES + rules[w];
            cause[at] = itsCause;
            ruling[at] = itsRuling;
            weight[at] = itsWeight;
            rules[w]++;
            itchAnew(w);
        }

        void dropRule(int w, int i) {
            int last = w * MOST_RULES + rules[w] - 1;
            for (int at = w * MOST_RULES + i; at < last; at++) {
                moveRule(at + 1, at);
            }
            rules[w]--;
            itchAnew(w);
        }

        private void moveRule(int from, int to) {
            cause[to] = cause[from];
            ruling[to] = ruling[from];
            weight[to] = weight[from];
        }

        /** How many RULES went. */
        int dropCause(int w, int c) {
            int first = w * MOST_RULES;
            int kept = 0;
            for (int i = 0; i < rules[w]; i++) {
                if (cause[first + i] != c) {
                    moveRule(first + i, first + kept);
                    kept++;
                }
            }
            int went = rules[w] - kept;
            rules[w] = kept;
            itchAnew(w);
            return went;
        }

        int lightestRule(int w) {
            int lightest = 0;
            for (int i = 1; i < rules[w]; i++) {
                if (weight[w * MOST_RULES + i] < weight[w * MOST_RULES + lightest]) {
                    lightest = i;
                }
            }
            return lightest;
        }

        void weigh(int w, int more) {
            for (int i = 0; i < rules[w]; i++) {
                int at = w * MOST_RULES + i;
                weight[at] = held(weight[at] + more, 1, FULL);
            }
        }

        private void itchAnew(int w) {
            int couples = 0;
            for (int c = 0; c < CAUSES; c++) {
                couples += Integer.bitCount(rulesFor(w, c, false)) * Integer.bitCount(rulesFor(w, c, true));
            }
            itch[w] = Math.min(FULL, couples * 9);
        }

        /** The set of RULES for a CAUSE whose RULING is above 0, or below. */
        private int rulesFor(int w, int c, boolean above) {
            int found = 0;
            for (int i = 0; i < rules[w]; i++) {
                int at = w * MOST_RULES + i;
                if (cause[at] == c && (above ? ruling[at] > 0 : ruling[at] < 0)) {
                    found |= 1 << i;
                }
            }
            return found;
        }

        boolean knows(int w, int c) {
            for (int i = 0; i < rules[w]; i++) {
                if (cause[w * MOST_RULES + i] == c) {
                    return true;
                }
            }
            return false;
        }

        /** COMBS: of each CAUSE one of both signs goes whole, the one with fewer RULES or else the lesser set. */
        int toComb(int w) {
            int combed = 0;
            for (int c = 0; c < CAUSES; c++) {
                int below = rulesFor(w, c, false);
                int above = rulesFor(w, c, true);
                int fewer = Integer.bitCount(below) - Integer.bitCount(above);
                boolean belowGoes = fewer < 0 || fewer == 0 && below < above;
                combed |= belowGoes ? below : above;
            }
            return combed;
        }

        int apart(int a, int b) {
            int sum = 0;
            for (int c = 0; c < CAUSES; c++) {
                sum += Math.abs(rulingsOn(a, c) - rulingsOn(b, c));
            }
            return sum;
        }

        private int rulingsOn(int w, int c) {
            int sum = 0;
            for (int i = 0; i < rules[w]; i++) {
                if (cause[w * MOST_RULES + i] == c) {
                    sum += ruling[w * MOST_RULES + i];
                }
            }
            return sum;
        }

        int nearest(int a) {
            int best = NONE;
            int least = 0;
            for (int w = 0; w < count; w++) {
                int far = apart(a, w);
                if (w != a && (best == NONE || far < least)) {
                    best = w;
                    least = far;
                }
            }
            return best;
        }

        int hairOf(int set) {
            int sum = 0;
            for (int w = 0; w < count; w++) {
                if ((set >> w & 1) == 1) {
                    sum += hair[w];
                }
            }
            return sum;
        }

        int worthOf(int set) {
            int sum = 0;
            for (int w = 0; w < count; w++) {
                if ((set >> w & 1) == 1) {
                    sum += rules[w] + (colour[w] == 1 ? 3 : 0);
                }
            }
            return sum;
        }

        /** SAVES: the least of the sets that are worth most. */
        int toSave(int mostHair) {
            int best = 0;
            int bestWorth = 0;
            for (int set = 1; set < 1 << count; set++) {
                if (hairOf(set) <= mostHair && worthOf(set) > bestWorth) {
                    best = set;
                    bestWorth = worthOf(set);
                }
            }
            return best;
        }

        /** GAME: who leaves rows whose numbers cancel each other bit by bit wins. */
        int wellPulled(boolean asksWig) {
            int all = 0;
            for (int w = 0; w < count; w++) {
                all ^= rules[w];
            }
            for (int w = 0; w < count; w++) {
                int left = rules[w] ^ all;
                if (left < rules[w]) {
                    return asksWig ? w : rules[w] - left;
                }
            }
            return NONE;
        }
    }

    /** All JUDGES, row by row. */
    private static final class Judges {
        final int[] age = new int[MOST_JUDGES];
        final int[] mind = new int[MOST_JUDGES];
        final int[] worn = new int[MOST_JUDGES];
        final int[] dead = new int[MOST_JUDGES];
        final int[] tried = new int[MOST_JUDGES];
        int count;

        void copyFrom(Judges other) {
            copyRow(other.age, age);
            copyRow(other.mind, mind);
            copyRow(other.worn, worn);
            copyRow(other.dead, dead);
            copyRow(other.tried, tried);
            count = other.count;
        }

        boolean has(int j) {
            return j >= 0 && j < count;
        }

        boolean lives(int j) {
            return has(j) && dead[j] == 0;
        }

        int add(int itsAge, int itsMind) {
            if (count >= MOST_JUDGES) {
                return NONE;
            }
            age[count] = itsAge;
            mind[count] = itsMind;
            worn[count] = NONE;
            dead[count] = 0;
            tried[count] = 0;
            count++;
            return count - 1;
        }

        int wearer(int w) {
            for (int j = 0; j < count; j++) {
                if (worn[j] == w) {
                    return j;
                }
            }
            return NONE;
        }

        /** The JUDGE not DEAD without a WIG with least AGE, but for those of a set. */
        int youngestBare(int but) {
            int youngest = NONE;
            for (int j = 0; j < count; j++) {
                boolean may = dead[j] == 0 && worn[j] == NONE && (but >> j & 1) == 0;
                if (may && (youngest == NONE || age[j] < age[youngest])) {
                    youngest = j;
                }
            }
            return youngest;
        }

        int deadSet() {
            int set = 0;
            for (int j = 0; j < count; j++) {
                set |= dead[j] << j;
            }
            return set;
        }
    }

    /** All that a YEAR or a deed by hand may change, and so all that UNDO brings back. */
    private static final class Bench {
        final Wigs wigs = new Wigs();
        final Judges judges = new Judges();
        final int[] cause = new int[MOST_CASES];
        final int[] merit = new int[MOST_CASES];
        final int[] verdict = new int[MOST_CASES];
        final int[] by = new int[MOST_CASES];
        int cases;
        int year;
        int draws;
        int bookLines;

        void copyFrom(Bench other) {
            wigs.copyFrom(other.wigs);
            judges.copyFrom(other.judges);
            copyRow(other.cause, cause);
            copyRow(other.merit, merit);
            copyRow(other.verdict, verdict);
            copyRow(other.by, by);
            cases = other.cases;
            year = other.year;
            draws = other.draws;
            bookLines = other.bookLines;
        }

        boolean hasCase(int c) {
            return c >= 0 && c < cases;
        }

        int addCase(int itsCause, int itsMerit) {
            if (cases >= MOST_CASES) {
                return NONE;
            }
            cause[cases] = itsCause;
            merit[cases] = itsMerit;
            verdict[cases] = NO_VERDICT;
            by[cases] = NONE;
            cases++;
            return cases - 1;
        }

        int openSet() {
            int set = 0;
            for (int c = 0; c < cases; c++) {
                if (verdict[c] == NO_VERDICT) {
                    set |= 1 << c;
                }
            }
            return set;
        }

        /** What GOES tells of the bench as it stands. */
        int sumUp(int what) {
            switch (what) {
                case 0:
                    return Integer.bitCount(judges.deadSet());
                case 1:
                    return allRules();
                case 2:
                    return wigs.hairOf((1 << wigs.count) - 1);
                default:
                    return verdictsAbove();
            }
        }

        private int allRules() {
            int sum = 0;
            for (int w = 0; w < wigs.count; w++) {
                sum += wigs.rules[w];
            }
            return sum;
        }

        private int verdictsAbove() {
            int above = 0;
            for (int c = 0; c < cases; c++) {
                if (verdict[c] > 0) {
                    above++;
                }
            }
            return above;
        }

        int draw(int m) {
            draws = draws * 1664525 + 1013904223;
            return m > 0 ? (draws >>> 8) % m : 0;
        }
    }

    /** The lines of THE BOOK, DOCKET, LOANS or KIN; a row that is not needed stays 0. */
    private static final class Lines {
        final int[] year;
        final int[] what;
        final int[] first;
        final int[] second;
        int count;

        Lines(int most) {
            int length = Math.max(0, most);
            year = new int[length];
            what = new int[length];
            first = new int[length];
            second = new int[length];
        }

        void copyFrom(Lines other) {
            copyRow(other.year, year);
            copyRow(other.what, what);
            copyRow(other.first, first);
            copyRow(other.second, second);
            count = other.count;
        }

        void add(int itsYear, int itsWhat, int itsFirst, int itsSecond) {
            if (count >= year.length) {
                return;
            }
            year[count] = itsYear;
            what[count] = itsWhat;
            first[count] = itsFirst;
            second[count] = itsSecond;
            count++;
        }
    }

    /** THE LAW: each line's E, then its B, their signs behind what they join. */
    private static final class Law {
        final int[] sign = new int[MOST_TAPE];
        final int[] value = new int[MOST_TAPE];
        int size;
        final int[] word = new int[MOST_LINES];
        final int[] sumEnd = new int[MOST_LINES];
        final int[] whenEnd = new int[MOST_LINES];
        int lines;
        final int[] facts = new int[FACTS];
        // Eight that are open hold two that wait each; a comparison wants four at most.
        private final int[] stack = new int[32];

        void copyFrom(Law other) {
            copyRow(other.sign, sign);
            copyRow(other.value, value);
            size = other.size;
            copyRow(other.word, word);
            copyRow(other.sumEnd, sumEnd);
            copyRow(other.whenEnd, whenEnd);
            lines = other.lines;
        }

        void clear() {
            size = 0;
            lines = 0;
        }

        void put(int itsSign, int itsValue) {
            if (size < MOST_TAPE) {
                sign[size] = itsSign;
                value[size] = itsValue;
                size++;
            }
        }

        /** E of the first line with that word whose B is so or that has none. */
        int tell(int asked, int otherwise) {
            int from = 0;
            for (int i = 0; i < lines; i++) {
                boolean isSo = word[i] == asked
                        && (sumEnd[i] == whenEnd[i] || run(sumEnd[i], whenEnd[i]) != 0);
                if (isSo) {
                    return run(from, sumEnd[i]);
                }
                from = whenEnd[i];
            }
            return otherwise;
        }

        private int run(int from, int to) {
            int high = 0;
            for (int i = from; i < to; i++) {
                int next = sign[i];
                if (next == NUMBER || next == FACT) {
                    if (high < stack.length) {
                        stack[high] = next == NUMBER ? value[i] : facts[value[i]];
                        high++;
                    }
                } else if (next == NOT) {
                    if (high > 0) {
                        stack[high - 1] = 1 - stack[high - 1];
                    }
                } else if (next == '/') {
                    if (high > 0 && value[i] != 0) {
                        stack[high - 1] /= value[i];
                    }
                } else if (high > 1) {
                    high--;
                    stack[high - 1] = joined(next, stack[high - 1], stack[high]);
                }
            }
            return stack[0];
        }

        private static int joined(int sign, int a, int b) {
            switch (sign) {
                case '+':
                    return a + b;
                case '-':
                    return a - b;
                case '*':
                    return a * b;
                case '<':
                    return a < b ? 1 : 0;
                case '=':
                    return a == b ? 1 : 0;
                case '>':
                    return a > b ? 1 : 0;
                case AND:
                    return a & b;
                default:
                    return a | b;
            }
        }
    }

    /** What is told for thought: TRAITS, CITES, ESTATE, HEARS. */
    private static final class Told {
        final int[] traitWhat = new int[MOST_TRAITS];
        final int[] traitValue = new int[MOST_TRAITS];
        final int[] traitIs = new int[MOST_TRAITS];
        int traits;
        final int[] citing = new int[MOST_CITES];
        final int[] cited = new int[MOST_CITES];
        int cites;
        final int[] worth = new int[2 * PARCELS];
        final int[] hours = new int[MOST_HARD];
        final int[] due = new int[MOST_HARD];
        int hards;
        private final int[] rowFrom = new int[MOST_CASES];

        void copyFrom(Told other) {
            copyRow(other.traitWhat, traitWhat);
            copyRow(other.traitValue, traitValue);
            copyRow(other.traitIs, traitIs);
            traits = other.traits;
            copyRow(other.citing, citing);
            copyRow(other.cited, cited);
            cites = other.cites;
            copyRow(other.worth, worth);
            copyRow(other.hours, hours);
            copyRow(other.due, due);
            hards = other.hards;
        }

        int addTrait(int what, int v, int is) {
            if (traits >= MOST_TRAITS || !within(what, OF_COLOUR, OF_LENT)) {
                return NONE;
            }
            int most = what == OF_COLOUR ? 2 : what == OF_CAUSE ? CAUSES - 1 : FULL;
            if (!within(v, 0, most)) {
                return NONE;
            }
            traitWhat[traits] = what;
            traitValue[traits] = v;
            traitIs[traits] = is;
            traits++;
            return traits;
        }

        int addCite(int a, int b) {
            boolean can = within(a, 0, MOST_CASES - 1) && within(b, 0, MOST_CASES - 1) && a != b;
            if (!can || cites >= MOST_CITES) {
                return NONE;
            }
            citing[cites] = a;
            cited[cites] = b;
            cites++;
            return cites;
        }

        int addHard(int itsHours, int itsDue) {
            if (hards >= MOST_HARD || !within(itsHours, 1, 24) || !within(itsDue, 0, FULL)) {
                return NONE;
            }
            hours[hards] = itsHours;
            due[hards] = itsDue;
            hards++;
            return hards;
        }

        int longestRow(boolean asksFirst) {
            if (!measureRows()) {
                return NONE;
            }
            if (cites == 0) {
                return asksFirst ? NONE : 0;
            }
            int first = 0;
            for (int c = 1; c < MOST_CASES; c++) {
                if (rowFrom[c] > rowFrom[first]) {
                    first = c;
                }
            }
            return asksFirst ? first : rowFrom[first];
        }

        /** The longest row from each CASE; false if they go round, since there is then no round without a change. */
        private boolean measureRows() {
            Arrays.fill(rowFrom, 1);
            for (int round = 0; round < MOST_CASES; round++) {
                boolean changed = false;
                for (int i = 0; i < cites; i++) {
                    if (rowFrom[citing[i]] <= rowFrom[cited[i]]) {
                        rowFrom[citing[i]] = rowFrom[cited[i]] + 1;
                        changed = true;
                    }
                }
                if (!changed) {
                    return true;
                }
            }
            return false;
        }

        private int worthOf(int to, int from, int until) {
            int sum = 0;
            for (int k = from; k < until; k++) {
                sum += worth[to * PARCELS + k];
            }
            return sum;
        }

        int cutPlace() {
            int best = 1;
            int bestWorth = NONE;
            for (int place = 1; place < PARCELS; place++) {
                int lesser = Math.min(worthOf(0, 0, place), worthOf(0, place, PARCELS));
                if (lesser > bestWorth) {
                    best = place;
                    bestWorth = lesser;
                }
            }
            return best;
        }

        int otherHas() {
            int place = cutPlace();
            return Math.max(worthOf(1, 0, place), worthOf(1, place, PARCELS));
        }

        int oneHas() {
            int place = cutPlace();
            boolean otherTakesFirst = worthOf(1, 0, place) >= worthOf(1, place, PARCELS);
            return otherTakesFirst ? worthOf(0, place, PARCELS) : worthOf(0, 0, place);
        }

        /** The least lateness of all hard cases not heard yet: what is due soonest is heard first. */
        int lateness(int heard, int hour) {
            int late = 0;
            int done = heard;
            int at = hour;
            for (int round = 0; round < hards; round++) {
                int next = soonestDue(done);
                if (next == NONE) {
                    return late;
                }
                done |= 1 << next;
                at += hours[next];
                late = Math.max(late, at - due[next]);
            }
            return late;
        }

        private int soonestDue(int heard) {
            int soonest = NONE;
            for (int i = 0; i < hards; i++) {
                if ((heard >> i & 1) == 0 && (soonest == NONE || due[i] < due[soonest])) {
                    soonest = i;
                }
            }
            return soonest;
        }

        /** The first order is built place by place of the least that still keeps the lateness. */
        int heardAt(int place) {
            int least = lateness(0, 0);
            int heard = 0;
            int hour = 0;
            int next = NONE;
            for (int i = 0; i <= place && i < hards; i++) {
                next = leastThatKeeps(least, heard, hour);
                if (next == NONE) {
                    return NONE;
                }
                heard |= 1 << next;
                hour += hours[next];
            }
            return next;
        }

        private int leastThatKeeps(int late, int heard, int hour) {
            for (int i = 0; i < hards; i++) {
                int ends = hour + hours[i];
                boolean keeps = (heard >> i & 1) == 0 && ends - due[i] <= late
                        && lateness(heard | 1 << i, ends) <= late;
                if (keeps) {
                    return i;
                }
            }
            return NONE;
        }
    }

    /** All that THE IMAGE holds. */
    private static final class World {
        final Bench bench = new Bench();
        final Lines pages = new Lines(MOST_BOOK);
        final Law law = new Law();
        final Lines docket = new Lines(MOST_LINES);
        final Lines loans = new Lines(MOST_LINES);
        final Lines descent = new Lines(MOST_LINES);
        final Told told = new Told();

        void copyFrom(World other) {
            bench.copyFrom(other.bench);
            pages.copyFrom(other.pages);
            law.copyFrom(other.law);
            docket.copyFrom(other.docket);
            loans.copyFrom(other.loans);
            descent.copyFrom(other.descent);
            told.copyFrom(other.told);
        }
    }

    /** What UNDO goes back to, the latest MOST_UNDONE in a ring. */
    private static final class Past {
        private final Bench[] kept = new Bench[MOST_UNDONE];
        private int next;
        int count;

        Past() {
            for (int i = 0; i < MOST_UNDONE; i++) {
                kept[i] = new Bench();
            }
        }

        void remember(Bench bench) {
            kept[next].copyFrom(bench);
            next = (next + 1) % MOST_UNDONE;
            count = Math.min(MOST_UNDONE, count + 1);
        }

        boolean goBack(Bench bench) {
            if (count == 0) {
                return false;
            }
            next = (next + MOST_UNDONE - 1) % MOST_UNDONE;
            count--;
            bench.copyFrom(kept[next]);
            return true;
        }

        void forget() {
            count = 0;
        }
    }

    /** What is done on the bench, in a YEAR, by hand or in thought. */
    private static final class Court {
        private final World world;
        private final Bench bench;
        private final Wigs wigs;
        private final Judges judges;
        private final Law law;
        private final Bench aside = new Bench();
        private boolean inThought;

        Court(World itsWorld) {
            world = itsWorld;
            bench = itsWorld.bench;
            wigs = itsWorld.bench.wigs;
            judges = itsWorld.bench.judges;
            law = itsWorld.law;
        }

        void beginThought() {
            aside.copyFrom(bench);
            inThought = true;
        }

        void endThought() {
            bench.copyFrom(aside);
            inThought = false;
        }

        /** How many lines THE BOOK has stands in the Bench, too, since UNDO takes lines back. */
        private void note(int what, int which, int howMuch) {
            if (inThought) {
                return;
            }
            Lines pages = world.pages;
            pages.count = bench.bookLines;
            pages.add(bench.year, what, which, howMuch);
            bench.bookLines = pages.count;
        }

        private void askNobody() {
            Arrays.fill(law.facts, 0);
            law.facts[ASKED_YEAR] = bench.year;
        }

        private void askJudge(int j) {
            law.facts[ASKED_AGE] = judges.age[j];
            law.facts[ASKED_MIND] = judges.mind[j];
            law.facts[ASKED_TRIED] = judges.tried[j];
        }

        private void askWig(int w) {
            law.facts[ASKED_COLOUR] = wigs.colour[w];
            law.facts[ASKED_HAIR] = wigs.hair[w];
            law.facts[ASKED_ITCH] = wigs.itch[w];
            law.facts[ASKED_LENT] = wigs.lent[w];
        }

        int countsOf(int w, int i, int j) {
            int at = w * MOST_RULES + i;
            askNobody();
            askJudge(j);
            askWig(w);
            law.facts[ASKED_CAUSE] = wigs.cause[at];
            law.facts[ASKED_WEIGHT] = wigs.weight[at];
            return held(law.tell(COUNTS, wigs.weight[at]), 0, FULL);
        }

        int mothOf(int w) {
            askNobody();
            askWig(w);
            return held(law.tell(MOTH, 1 + wigs.itch[w] / 9), 0, FULL);
        }

        int diesOf(int j) {
            askNobody();
            askJudge(j);
            if (wigs.has(judges.worn[j])) {
                askWig(judges.worn[j]);
            }
            return held(law.tell(DIES, Math.max(0, judges.age[j] - 60) * 9), 0, 1000);
        }

        int verdictOf(int c, int j) {
            int sum = bench.merit[c] + 3 * judges.mind[j];
            int w = judges.worn[j];
            int rules = wigs.has(w) ? wigs.rules[w] : 0;
            for (int i = 0; i < rules; i++) {
                int at = w * MOST_RULES + i;
                if (wigs.cause[at] == bench.cause[c]) {
                    sum += Math.floorDiv(wigs.ruling[at] * countsOf(w, i, j), 9);
                }
            }
            return held(sum, -999, 999);
        }

        boolean canTry(int c, int j) {
            return bench.hasCase(c) && bench.verdict[c] == NO_VERDICT && judges.lives(j);
        }

        void tryCase(int c, int j) {
            int verdict = verdictOf(c, j);
            bench.verdict[c] = verdict;
            bench.by[c] = j;
            judges.tried[j]++;
            int w = judges.worn[j];
            if (wigs.has(w)) {
                if (wigs.rules[w] >= MOST_RULES) {
                    wigs.dropRule(w, wigs.lightestRule(w));
                }
                wigs.addRule(w, bench.cause[c], held(Math.floorDiv(verdict, 20), -KEENEST, KEENEST), 9);
            }
            note(TRIED, c, verdict);
        }

        boolean canDo(int what, int w, int v) {
            if (!wigs.has(w)) {
                return false;
            }
            switch (what) {
                case TO_PUT_ON:
                    return judges.lives(v) && judges.worn[v] == NONE;
                case TO_TAKE_OFF:
                    return judges.wearer(w) != NONE;
                case TO_COMB:
                    return wigs.knows(w, v);
                case TO_BRUSH:
                    return within(v, 1, FULL);
                default:
                    return false;
            }
        }

        void doTo(int what, int w, int v) {
            switch (what) {
                case TO_PUT_ON:
                    putOn(w, v);
                    break;
                case TO_TAKE_OFF:
                    takeOff(w);
                    break;
                case TO_COMB:
                    note(COMBED, w, wigs.dropCause(w, v));
                    break;
                default:
                    wigs.hair[w] = Math.min(FULL, wigs.hair[w] + v);
                    wigs.weigh(w, -1);
                    break;
            }
        }

        private void putOn(int w, int j) {
            takeOff(w);
            judges.worn[j] = w;
            wigs.lent[w]++;
            note(PUT_ON, w, j);
        }

        private void takeOff(int w) {
            int wearer = judges.wearer(w);
            if (wearer != NONE) {
                judges.worn[wearer] = NONE;
            }
        }

        /** How many died. */
        int passYear() {
            Lines loans = world.loans;
            for (int i = 0; i < loans.count; i++) {
                if (loans.year[i] == bench.year && canDo(loans.what[i], loans.first[i], loans.second[i])) {
                    doTo(loans.what[i], loans.first[i], loans.second[i]);
                }
            }
            Lines docket = world.docket;
            for (int i = 0; i < docket.count; i++) {
                if (docket.year[i] == bench.year && canTry(docket.first[i], docket.second[i])) {
                    tryCase(docket.first[i], docket.second[i]);
                }
            }
            int died = 0;
            for (int j = 0; j < judges.count; j++) {
                if (judges.lives(j) && growsOldAndDies(j)) {
                    passOn(j);
                    died++;
                }
            }
            for (int w = 0; w < wigs.count; w++) {
                wearOut(w);
            }
            bench.year++;
            return died;
        }

        private boolean growsOldAndDies(int j) {
            judges.age[j] = Math.min(OLDEST, judges.age[j] + 1);
            int dies = diesOf(j);
            boolean drawn;
            if (inThought) {
                drawn = dies >= 500;
            } else {
                drawn = dies > 0 && bench.draw(1000) < dies;
            }
            return drawn || judges.age[j] == OLDEST;
        }

        private void passOn(int j) {
            int w = judges.worn[j];
            judges.dead[j] = 1;
            note(DIED, j, judges.age[j]);
            if (!wigs.has(w)) {
                return;
            }
            int next = judges.youngestBare(0);
            if (next == NONE) {
                takeOff(w);
            } else {
                putOn(w, next);
            }
        }

        private void wearOut(int w) {
            wigs.hair[w] = Math.max(0, wigs.hair[w] - mothOf(w));
            if (wigs.hair[w] == 0 && wigs.rules[w] > 0) {
                int eaten = wigs.cause[w * MOST_RULES];
                wigs.dropRule(w, 0);
                note(EATEN, w, eaten);
            }
            if (judges.wearer(w) != NONE) {
                wigs.weigh(w, 1);
            }
        }
    }

    /** What is thought of JUDGES, KIN and TRAITS without a YEAR going by. */
    private static final class Thought {
        private final World world;
        private final Court court;

        Thought(World itsWorld, Court itsCourt) {
            world = itsWorld;
            court = itsCourt;
        }

        int forumOf(int c, boolean asksBest) {
            int found = NONE;
            int foundVerdict = 0;
            for (int j = 0; j < world.bench.judges.count; j++) {
                if (!world.bench.judges.lives(j)) {
                    continue;
                }
                int verdict = court.verdictOf(c, j);
                boolean better = asksBest ? verdict > foundVerdict : verdict < foundVerdict;
                if (found == NONE || better) {
                    found = j;
                    foundVerdict = verdict;
                }
            }
            return found;
        }

        /** How many JUDGES not DEAD but one would find above 0 (or not). */
        private int finders(int c, boolean above, int but) {
            int found = 0;
            for (int j = 0; j < world.bench.judges.count; j++) {
                boolean asked = j != but && world.bench.judges.lives(j);
                if (asked && court.verdictOf(c, j) > 0 == above) {
                    found++;
                }
            }
            return found;
        }

        /** Three of those who find above 0, or two of them and one other. */
        int panelsFor(int c) {
            int yes = finders(c, true, NONE);
            int no = finders(c, false, NONE);
            return yes * (yes - 1) * (yes - 2) / 6 + yes * (yes - 1) / 2 * no;
        }

        /** He turns a panel whose two others do not agree. */
        int turnsOf(int c, int j) {
            if (!world.bench.judges.lives(j)) {
                return 0;
            }
            return finders(c, true, j) * finders(c, false, j);
        }

        /** Who has had the WIG is DEAD when the next one is looked for. */
        int heirOf(int w, int n) {
            Judges judges = world.bench.judges;
            if (judges.wearer(w) == NONE) {
                return NONE;
            }
            int gone = 0;
            int next = NONE;
            for (int i = 0; i < n; i++) {
                next = judges.youngestBare(gone);
                if (next == NONE) {
                    return NONE;
                }
                gone |= 1 << next;
            }
            return next;
        }

        private int madeAfter(int w) {
            Lines descent = world.descent;
            for (int i = 0; i < descent.count; i++) {
                if (descent.first[i] == w) {
                    return descent.second[i];
                }
            }
            return NONE;
        }

        int rootOf(int w) {
            int been = 0;
            int at = w;
            for (int i = 0; i < MOST_WIGS; i++) {
                been |= 1 << at;
                int back = madeAfter(at);
                if (back == NONE) {
                    return at;
                }
                at = back;
                if ((been >> at & 1) == 1) {
                    return at;
                }
            }
            return at;
        }

        private int backSet(int w) {
            int set = 0;
            int at = w;
            for (int i = 0; i < MOST_WIGS && at != NONE; i++) {
                set |= 1 << at;
                at = madeAfter(at);
            }
            return set;
        }

        int commonOf(int a, int b) {
            int others = backSet(b);
            int at = a;
            for (int i = 0; i < MOST_WIGS && at != NONE; i++) {
                if ((others >> at & 1) == 1) {
                    return at;
                }
                at = madeAfter(at);
            }
            return NONE;
        }

        private boolean hasTrait(int w, int what, int v) {
            Wigs wigs = world.bench.wigs;
            switch (what) {
                case OF_COLOUR:
                    return wigs.colour[w] == v;
                case OF_HAIR:
                    return wigs.hair[w] >= v;
                case OF_CAUSE:
                    return wigs.knows(w, v);
                default:
                    return wigs.lent[w] >= v;
            }
        }

        private boolean isAsTold(int w) {
            Told told = world.told;
            for (int i = 0; i < told.traits; i++) {
                if (hasTrait(w, told.traitWhat[i], told.traitValue[i]) != (told.traitIs[i] == 1)) {
                    return false;
                }
            }
            return true;
        }

        int whoseSet() {
            int set = 0;
            for (int w = 0; w < world.bench.wigs.count; w++) {
                if (isAsTold(w)) {
                    set |= 1 << w;
                }
            }
            return set;
        }

        int causeToLookAt() {
            int set = whoseSet();
            int all = Integer.bitCount(set);
            if (all < 2) {
                return NONE;
            }
            int best = NONE;
            int bestLeft = 0;
            for (int c = 0; c < CAUSES; c++) {
                int knowing = knowers(set, c);
                int left = Math.max(knowing, all - knowing);
                if (best == NONE || left < bestLeft) {
                    best = c;
                    bestLeft = left;
                }
            }
            return best;
        }

        private int knowers(int set, int c) {
            int found = 0;
            for (int w = 0; w < world.bench.wigs.count; w++) {
                if ((set >> w & 1) == 1 && world.bench.wigs.knows(w, c)) {
                    found++;
                }
            }
            return found;
        }
    }

    /** The TAPE, and how it becomes a TEXT: first it is split into TOKENS, then they are read from the left. */
    private static final class Reader {
        private final World world;
        private final int[] tape = new int[MOST_TAPE];
        int length;
        // One TOKEN a byte at most, and the end.
        private final int[] kind = new int[MOST_TAPE + 1];
        private final int[] value = new int[MOST_TAPE + 1];
        private final int[] place = new int[MOST_TAPE + 1];
        private int tokens;
        private int at;
        int faultFound;
        int faultPlace = NONE;
        private final Law law = new Law();
        final Lines lines = new Lines(MOST_LINES);
        // and, or, ( and not that wait for what comes: of eight that are open and the whole two each at most.
        private final int[] waiting = new int[32];
        private int waits;
        private int open;
        private int brackets;

        Reader(World itsWorld) {
            world = itsWorld;
        }

        boolean hasRoomFor(int bytes) {
            return length <= MOST_TAPE - bytes;
        }

        void addNumber(int number) {
            for (int shift = 24; shift >= 0; shift -= 8) {
                if (length < MOST_TAPE) {
                    tape[length] = number >>> shift & 255;
                    length++;
                }
            }
        }

        /** The TAPE is split and empty then, whatever becomes of its TOKENS. */
        void begin() {
            faultFound = 0;
            faultPlace = NONE;
            at = 0;
            tokens = 0;
            int to;
            for (int from = 0; from < length; from = to) {
                to = from + 1;
                if (isLetter(tape[from])) {
                    while (to < length && isLetter(tape[to])) {
                        to++;
                    }
                    addToken(wordAt(from, to), 0, from);
                } else if (isDigit(tape[from])) {
                    while (to < length && isDigit(tape[to])) {
                        to++;
                    }
                    addToken(to - from <= 4 ? NUMBER : BAD, numberAt(from, to), from);
                } else if (tape[from] != 32 && tape[from] != 10) {
                    addToken(isSign(tape[from]) ? tape[from] : BAD, 0, from);
                }
            }
            addToken(END, 0, length);
            length = 0;
        }

        private void addToken(int itsKind, int itsValue, int itsPlace) {
            if (tokens < kind.length) {
                kind[tokens] = itsKind;
                value[tokens] = itsValue;
                place[tokens] = itsPlace;
                tokens++;
            }
        }

        private static boolean isLetter(int b) {
            return within(b, 'a', 'z') || within(b, 'A', 'Z');
        }

        private static boolean isDigit(int b) {
            return within(b, '0', '9');
        }

        private static boolean isSign(int b) {
            switch (b) {
                case ';':
                case '+':
                case '-':
                case '*':
                case '/':
                case '(':
                case ')':
                case '<':
                case '=':
                case '>':
                    return true;
                default:
                    return false;
            }
        }

        private int numberAt(int from, int to) {
            int number = 0;
            for (int i = from; i < to; i++) {
                number = number * 10 + tape[i] - '0';
            }
            return number;
        }

        private int wordAt(int from, int to) {
            int word = WORD;
            int start = 0;
            for (int i = 0; i < WORDS.length(); i++) {
                if (WORDS.charAt(i) == ' ') {
                    if (i - start == to - from && isSpelt(from, to, start)) {
                        return word;
                    }
                    word++;
                    start = i + 1;
                }
            }
            return BAD;
        }

        private boolean isSpelt(int from, int to, int start) {
            for (int i = from; i < to; i++) {
                if (tape[i] != WORDS.charAt(start + i - from)) {
                    return false;
                }
            }
            return true;
        }

        private boolean fail(int itsFault) {
            faultFound = itsFault;
            faultPlace = place[at];
            return false;
        }

        private boolean expect(int wanted) {
            if (kind[at] != wanted) {
                return fail(CANNOT_STAND);
            }
            at++;
            return true;
        }

        /** A NUMBER within its bounds, or NONE with a FAULT. */
        private int readNumber(int least, int most) {
            if (kind[at] != NUMBER) {
                fail(CANNOT_STAND);
                return NONE;
            }
            if (!within(value[at], least, most)) {
                fail(OUT_OF_BOUNDS);
                return NONE;
            }
            at++;
            return value[at - 1];
        }

        private int readWig() {
            return readNumber(0, world.bench.wigs.count - 1);
        }

        private int readJudge() {
            return readNumber(0, world.bench.judges.count - 1);
        }

        /** DOCKET, LOANS or KIN; only what is whole replaces what was told. */
        boolean readLines(int k) {
            lines.count = 0;
            for (int i = 0; i <= MOST_LINES && kind[at] != END; i++) {
                boolean isRead = k == KIN ? readKinLine() : readPlanLine(k);
                if (!isRead) {
                    return false;
                }
            }
            if (k == DOCKET) {
                world.docket.copyFrom(lines);
            } else if (k == LOANS) {
                world.loans.copyFrom(lines);
            } else {
                world.descent.copyFrom(lines);
            }
            return true;
        }

        /** The KEYWORD at which a line of a text begins. */
        private boolean expectFirst(int wanted, int soFar) {
            if (kind[at] == wanted && soFar >= MOST_LINES) {
                return fail(TOO_MANY);
            }
            return expect(wanted);
        }

        private boolean readKinLine() {
            if (!expectFirst(WIG, lines.count)) {
                return false;
            }
            int wig = readWig();
            if (wig == NONE || !expect(OF)) {
                return false;
            }
            if (kind[at] == NUMBER && value[at] == wig) {
                return fail(OUT_OF_BOUNDS);
            }
            int after = readWig();
            if (after == NONE || !expect(';')) {
                return false;
            }
            lines.add(0, 0, wig, after);
            return true;
        }

        private boolean readPlanLine(int k) {
            if (!expectFirst(IN, lines.count)) {
                return false;
            }
            int year = readNumber(0, LAST_PLANNED_YEAR);
            if (year == NONE) {
                return false;
            }
            boolean isRead = k == DOCKET ? readHearing(year) : readLoan(year);
            return isRead && expect(';');
        }

        private boolean readHearing(int year) {
            if (!expect(CASE)) {
                return false;
            }
            int heard = readNumber(0, world.bench.cases - 1);
            if (heard == NONE || !expect(BEFORE)) {
                return false;
            }
            int judge = readJudge();
            lines.add(year, 0, heard, judge);
            return judge != NONE;
        }

        private boolean readLoan(int year) {
            int verb = kind[at];
            if (verb != WIG && verb != OFF && verb != COMB && verb != BRUSH) {
                return fail(CANNOT_STAND);
            }
            at++;
            int wig = readWig();
            if (wig == NONE) {
                return false;
            }
            int what = TO_TAKE_OFF;
            int v = 0;
            if (verb == WIG) {
                what = TO_PUT_ON;
                v = expect(ON) ? readJudge() : NONE;
            } else if (verb == COMB) {
                what = TO_COMB;
                v = readNumber(0, CAUSES - 1);
            } else if (verb == BRUSH) {
                what = TO_BRUSH;
                v = readNumber(1, FULL);
            }
            lines.add(year, what, wig, v);
            return v != NONE;
        }

        boolean readLaw() {
            law.clear();
            for (int i = 0; i <= MOST_LINES && kind[at] != END; i++) {
                if (!readLawLine()) {
                    return false;
                }
            }
            world.law.copyFrom(law);
            return true;
        }

        private boolean readLawLine() {
            int word = kind[at];
            if (word != COUNTS && word != MOTH && word != DIES) {
                return fail(CANNOT_STAND);
            }
            int line = law.lines;
            if (line >= MOST_LINES) {
                return fail(TOO_MANY);
            }
            at++;
            if (!readSum()) {
                return false;
            }
            law.word[line] = word;
            law.sumEnd[line] = law.size;
            if (kind[at] == WHEN) {
                at++;
                if (!readCondition()) {
                    return false;
                }
            }
            law.whenEnd[line] = law.size;
            law.lines++;
            return expect(';');
        }

        private boolean readSum() {
            if (!readProduct()) {
                return false;
            }
            while (at < tokens && (kind[at] == '+' || kind[at] == '-')) {
                int sign = kind[at];
                at++;
                if (!readProduct()) {
                    return false;
                }
                law.put(sign, 0);
            }
            return true;
        }

        private boolean readProduct() {
            if (!readUnit()) {
                return false;
            }
            while (at < tokens && (kind[at] == '*' || kind[at] == '/')) {
                boolean isPart = kind[at] == '/';
                at++;
                int divisor = isPart ? readNumber(1, 9999) : 0;
                if (divisor == NONE || !isPart && !readUnit()) {
                    return false;
                }
                law.put(isPart ? '/' : '*', divisor);
            }
            return true;
        }

        private boolean readUnit() {
            if (kind[at] == NUMBER) {
                law.put(NUMBER, value[at]);
            } else if (within(kind[at], WORD, WORD + FACTS - 1)) {
                law.put(FACT, kind[at] - WORD);
            } else {
                return fail(CANNOT_STAND);
            }
            at++;
            return true;
        }

        /** B. What is open waits in a row, so that nothing calls itself for it. */
        private boolean readCondition() {
            waits = 0;
            open = 0;
            brackets = 0;
            while (at < tokens) {
                if (!readOpening() || !readSum()) {
                    return false;
                }
                int sign = kind[at];
                if (sign != '<' && sign != '=' && sign != '>') {
                    return fail(CANNOT_STAND);
                }
                at++;
                if (!readSum()) {
                    return false;
                }
                law.put(sign, 0);
                readClosing();
                if (kind[at] != AND && kind[at] != OR) {
                    return brackets == 0 || fail(CANNOT_STAND);
                }
                await(kind[at]);
                at++;
            }
            return fail(CANNOT_STAND);
        }

        private void await(int sign) {
            if (waits < waiting.length) {
                waiting[waits] = sign;
                waits++;
            }
        }

        private boolean isAwaited(int sign) {
            return waits > 0 && waiting[waits - 1] == sign;
        }

        private boolean readOpening() {
            while (at < tokens && (kind[at] == '(' || kind[at] == NOT)) {
                if (open >= MOST_OPEN) {
                    return fail(TOO_MANY);
                }
                open++;
                brackets += kind[at] == '(' ? 1 : 0;
                await(kind[at]);
                at++;
            }
            return true;
        }

        private void readClosing() {
            settle();
            while (at < tokens && kind[at] == ')' && brackets > 0) {
                waits--;
                brackets--;
                open--;
                at++;
                settle();
            }
        }

        /** A C has ended: each not that waits for it is put, then an and; an or only if no and comes. */
        private void settle() {
            while (waits > 0 && waiting[waits - 1] == NOT) {
                law.put(NOT, 0);
                waits--;
                open--;
            }
            if (isAwaited(AND)) {
                law.put(AND, 0);
                waits--;
            }
            if (kind[at] != AND && isAwaited(OR)) {
                law.put(OR, 0);
                waits--;
            }
        }
    }
}
