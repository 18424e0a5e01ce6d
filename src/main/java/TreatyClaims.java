import java.util.ArrayList;
import java.util.Arrays;

/**
 * The commission of a treaty: who is who on which day, what was lost, who claims it under which rules, how it is
 * decided, and how a fund pays it. No call throws: each says what is wrong with NONE, RANGE, FULL or STATE.
 */
public final class TreatyClaims {
    /** There is none. */
    public static final int NONE = -1;
    /** A number that can't be. */
    public static final int RANGE = -2;
    /** No room. */
    public static final int FULL = -3;
    /** Not as things are. */
    public static final int STATE = -4;

    /** What rule() and about() answer when there is none such: NONE is an answer of its own there. */
    private static final int NO_SUCH = -9;
    private static final int LAST_DAY = 1999;
    private static final int NATIONS = 4;
    private static final int CURRENCIES = 4;
    private static final int ROLES = 4;
    private static final int VERSIONS = 4;

    private final Tape tape = new Tape();
    private final RulesReader reader = new RulesReader(tape);
    private final Rules[] versions = new Rules[VERSIONS];
    private final People people = new People();
    private final Rates rates = new Rates();
    private final Things things = new Things();
    private final Docket docket = new Docket(people, things);
    private final TestCases testCases = new TestCases();
    private final Fund coffer = new Fund(people, docket);
    private int clock;
    private int inForce;
    private int oneSide;
    private int otherSide;

    public TreatyClaims() {
        for (int v = 0; v < VERSIONS; v++) {
            versions[v] = new Rules();
        }
        otherSide = 1;
    }

    public int feed(int a, int b, int c, int d, int e) {
        return tape.append(a, b, c, d, e);
    }

    public int end(int n) {
        return tape.cut(n);
    }

    // ---- persons, days

    public int pass(int n) {
        if (!within(n, 1, 500) || clock + n > LAST_DAY) {
            return RANGE;
        }
        clock += n;
        return clock;
    }

    public int person() {
        return people.add();
    }

    public int nation(int p, int nation, int from) {
        if (!people.has(p) || !within(nation, 0, NATIONS - 1) || !isDay(from)) {
            return RANGE;
        }
        return people.tell(People.NATION, p, from, nation, clock);
    }

    public int dead(int p, int from) {
        if (!people.has(p) || !isDay(from)) {
            return RANGE;
        }
        return people.tell(People.DEATH, p, from, 0, clock);
    }

    public int heir(int p, int q, int parts) {
        if (!people.has(p) || !people.has(q) || p == q || !within(parts, 1, 99)) {
            return RANGE;
        }
        return people.tell(People.HEIR, p, q, parts, clock);
    }

    public int nationOn(int p, int day, int known) {
        if (!people.has(p) || !isDay(day) || !isDay(known)) {
            return RANGE;
        }
        return people.nationFor(p, day, known);
    }

    public int deadOn(int p, int day, int known) {
        if (!people.has(p) || !isDay(day) || !isDay(known)) {
            return RANGE;
        }
        return people.isDead(p, day, known) ? 1 : 0;
    }

    public int heirOn(int p, int known, int i, int what) {
        if (!people.has(p) || !isDay(known)) {
            return NONE;
        }
        return people.heirDetail(p, known, i, what);
    }

    public int rate(int currency, int day, int pence) {
        if (!within(currency, 1, CURRENCIES - 1) || !isDay(day) || !within(pence, 1, 99999)) {
            return RANGE;
        }
        return rates.add(currency, day, pence);
    }

    public int rateOn(int currency, int day) {
        if (!within(currency, 0, CURRENCIES - 1) || !isDay(day)) {
            return RANGE;
        }
        return rates.penceFor(currency, day);
    }

    public int sides(int a, int b) {
        if (!within(a, 0, NATIONS - 1) || !within(b, 0, NATIONS - 1) || a == b) {
            return RANGE;
        }
        oneSide = a;
        otherSide = b;
        return 1;
    }

    // ---- rules

    public int rules(int v) {
        if (!within(v, 0, VERSIONS - 1)) {
            tape.clear();
            return RANGE;
        }
        int clauses = reader.readRules();
        tape.clear();
        if (clauses != NONE) {
            versions[v] = reader.exchange(versions[v]);
        }
        return clauses;
    }

    public int fault(int what) {
        switch (what) {
            case 0:
                return reader.faultKind;
            case 1:
                return reader.faultPlace;
            default:
                return NONE;
        }
    }

    public int force(int v) {
        if (!within(v, 0, VERSIONS - 1)) {
            return RANGE;
        }
        int before = inForce;
        inForce = v;
        return before;
    }

    public int rule(int v, int what) {
        Rules rules = versionAt(v);
        return rules == null ? NO_SUCH : rules.detail(what);
    }

    public int need(int v) {
        long word = tape.takeWord();
        Rules rules = versionAt(v);
        if (rules == null) {
            return RANGE;
        }
        return word == Tape.NO_WORD ? NONE : rules.needOf(word);
    }

    public int kind(int v) {
        long word = tape.takeWord();
        Rules rules = versionAt(v);
        if (rules == null) {
            return RANGE;
        }
        return word == Tape.NO_WORD ? NONE : rules.kindOf(word);
    }

    // ---- things, claims, papers

    public int thing(int day, int marks, int worth) {
        if (!within(day, 0, clock) || !within(marks, 0, 255)) {
            return RANGE;
        }
        if (worth != NONE && !within(worth, 1, 999999)) {
            return RANGE;
        }
        return things.add(day, marks, worth);
    }

    public int lost(int t, int what) {
        return things.has(t) ? things.detail(t, what) : NONE;
    }

    public int claim(int p, int nation, int t, int role, int currency, int sum) {
        long word = tape.takeWord();
        if (!people.has(p) || !within(nation, 0, NATIONS - 1) || !things.has(t)) {
            return RANGE;
        }
        if (!within(role, 0, ROLES - 1) || !within(currency, 0, CURRENCIES - 1) || !within(sum, 1, 9999999)) {
            return RANGE;
        }
        if (word == Tape.NO_WORD) {
            return NONE;
        }
        int amount = rates.amountOf(sum, currency, things.dayOf(t));
        return docket.file(new Claim(p, nation, t, role, amount, clock, word));
    }

    public int mark(int c, int marks) {
        Claim claim = docket.claimAt(c);
        if (claim == null || !within(marks, 0, 1023)) {
            return RANGE;
        }
        int before = claim.marks;
        claim.marks = marks;
        return before;
    }

    public int paper(int c, int issuer, int day) {
        long word = tape.takeWord();
        Claim claim = docket.claimAt(c);
        if (claim == null || !isDay(day) || (issuer != NONE && !people.has(issuer))) {
            return RANGE;
        }
        if (word == Tape.NO_WORD) {
            return NONE;
        }
        return docket.bring(new Paper(claim, word, issuer, day, clock));
    }

    public int forged(int k, int known) {
        Paper paper = docket.paperAt(k);
        if (paper == null || !isDay(known)) {
            return RANGE;
        }
        return docket.isForged(paper, known) ? 1 : 0;
    }

    public int fails(int c, int v, int known) {
        Claim claim = docket.claimAt(c);
        Rules rules = versionAt(v);
        if (claim == null || rules == null || !isDay(known)) {
            return RANGE;
        }
        return docket.failuresOf(claim, rules, known);
    }

    public int points(int c, int v, int known) {
        Claim claim = docket.claimAt(c);
        Rules rules = versionAt(v);
        if (claim == null || rules == null || !isDay(known)) {
            return RANGE;
        }
        return rules.pointsOf(docket.hadKinds(claim, rules, known));
    }

    public int lacks(int c, int v, int known) {
        Claim claim = docket.claimAt(c);
        Rules rules = versionAt(v);
        if (claim == null || rules == null || !isDay(known)) {
            return RANGE;
        }
        return rules.lackingKinds(claim.word, docket.hadKinds(claim, rules, known));
    }

    public int weakest(int c, int v, int known) {
        Claim claim = docket.claimAt(c);
        Rules rules = versionAt(v);
        if (claim == null || rules == null || !isDay(known)) {
            return RANGE;
        }
        if (docket.failuresOf(claim, rules, known) != 0) {
            return NONE;
        }
        return rules.weakestKind(claim.word, docket.hadKinds(claim, rules, known));
    }

    public int beside(int v, int w) {
        Rules one = versionAt(v);
        Rules other = versionAt(w);
        if (one == null || other == null) {
            return RANGE;
        }
        return docket.provenByOneAlone(one, other, clock);
    }

    public int withdraw(int c) {
        Claim claim = docket.claimAt(c);
        if (claim == null) {
            return RANGE;
        }
        if (claim.state != Claim.OPEN) {
            return STATE;
        }
        claim.state = Claim.WITHDRAWN;
        return 1;
    }

    public int about(int c, int what) {
        Claim claim = docket.claimAt(c);
        return claim == null ? NO_SUCH : claim.detail(what);
    }

    // ---- decisions

    public int due(int c) {
        Claim claim = docket.claimAt(c);
        Rules rules = versionAt(inForce);
        if (claim == null || rules == null) {
            return RANGE;
        }
        return docket.dueOf(claim, rules, clock);
    }

    public int vote(int c, int a, int b) {
        Claim claim = docket.claimAt(c);
        Rules rules = versionAt(inForce);
        if (claim == null || rules == null) {
            return RANGE;
        }
        if (claim.state != Claim.OPEN) {
            return STATE;
        }
        int due = docket.dueOf(claim, rules, clock);
        if (!within(a, 0, due) || !within(b, 0, due)) {
            return RANGE;
        }
        int split = rules.settings[Rules.SPLIT];
        if (a != b && split == Rules.SPLIT_UMPIRE) {
            claim.divide(a, b);
        } else {
            docket.decide(claim, split == Rules.SPLIT_LEAST ? Math.min(a, b) : (a + b) / 2, due, rules, clock);
        }
        return claim.state;
    }

    public int umpire(int p, boolean is) {
        if (!people.has(p)) {
            return RANGE;
        }
        return people.enlist(p, is) ? 1 : 0;
    }

    public int lots() {
        return people.countForLot(oneSide, otherSide, clock);
    }

    public int lot(int c, int number, int sum) {
        Claim claim = docket.claimAt(c);
        Rules rules = versionAt(inForce);
        if (claim == null || rules == null) {
            return RANGE;
        }
        if (claim.state != Claim.SPLIT) {
            return STATE;
        }
        int drawn = people.drawnBy(number, oneSide, otherSide, clock);
        int lesser = Math.min(claim.oneVote, claim.otherVote);
        int greater = Math.max(claim.oneVote, claim.otherVote);
        if (drawn == NONE || !within(sum, lesser, greater)) {
            return RANGE;
        }
        docket.decide(claim, sum, docket.dueOf(claim, rules, clock), rules, clock);
        return drawn;
    }

    public int like(int c, int d) {
        Claim one = docket.claimAt(c);
        Claim other = docket.claimAt(d);
        Rules rules = versionAt(inForce);
        if (one == null || other == null || c == d || rules == null) {
            return RANGE;
        }
        return one.isLike(other, rules.settings[Rules.TEST]) ? 1 : 0;
    }

    public int tests(int n) {
        Rules rules = versionAt(inForce);
        if (!within(n, 1, TestCases.MOST) || rules == null) {
            return RANGE;
        }
        return testCases.choose(docket, rules.settings[Rules.TEST], n);
    }

    public int test(int i) {
        return testCases.chosenAt(i);
    }

    public int spread(int c) {
        Claim settled = docket.claimAt(c);
        Rules rules = versionAt(inForce);
        if (settled == null || rules == null) {
            return RANGE;
        }
        if (settled.state != Claim.DECIDED) {
            return STATE;
        }
        int found = 0;
        for (int i = 0; i < docket.claims.size(); i++) {
            Claim claim = docket.claims.get(i);
            if (claim.state == Claim.OPEN && claim.isLike(settled, rules.settings[Rules.TEST])) {
                int due = docket.dueOf(claim, rules, clock);
                docket.decide(claim, settled.measureOf(due), due, rules, clock);
                found++;
            }
        }
        return found;
    }

    public int again(int c) {
        Claim claim = docket.claimAt(c);
        Rules rules = versionAt(inForce);
        if (claim == null || rules == null) {
            return RANGE;
        }
        if (claim.state != Claim.DECIDED || clock - claim.decidedOn > rules.settings[Rules.LATE]) {
            return STATE;
        }
        boolean failsAlike = docket.failuresOf(claim, rules, clock) == claim.keptFailures;
        if (failsAlike && docket.dueOf(claim, rules, clock) == claim.keptDue) {
            return 0;
        }
        claim.reopen();
        return 1;
    }

    // ---- the fund

    public int fund(int pence) {
        if (!within(pence, 1, 9999999) || coffer.came + pence > Fund.MOST) {
            return RANGE;
        }
        return coffer.take(pence);
    }

    public int wave() {
        Rules rules = versionAt(inForce);
        return rules == null ? 0 : coffer.payWave(rules.settings[Rules.PART], clock);
    }

    public int last() {
        if (docket.countOf(Claim.OPEN) + docket.countOf(Claim.SPLIT) > 0) {
            return STATE;
        }
        return coffer.payLast(clock);
    }

    public int purse(int p) {
        return people.has(p) ? people.purseOf(p) : RANGE;
    }

    public int count(int what) {
        switch (what) {
            case 0:
                return clock;
            case 1:
                return people.persons;
            case 2:
                return people.tellings;
            case 3:
                return things.things;
            case 4:
                return docket.claims.size();
            case 5:
                return docket.papers.size();
            case 6:
                return coffer.came;
            case 7:
                return coffer.coin;
            case 8:
                return docket.sumOfAwards();
            case 9:
                return inForce;
            case 10:
                return tape.length;
            default:
                return within(what, 20, 20 + Claim.WITHDRAWN) ? docket.countOf(what - 20) : NONE;
        }
    }

    private Rules versionAt(int v) {
        return within(v, 0, VERSIONS - 1) ? versions[v] : null;
    }

    private static boolean within(int n, int least, int most) {
        return n >= least && n <= most;
    }

    private static boolean isDay(int day) {
        return within(day, 0, LAST_DAY);
    }

    /** The bytes that were fed, and the TOKENS in them. A WORD is held as one long: five bits a letter. */
    private static final class Tape {
        static final int ROOM = 600;
        static final long NO_WORD = 0;
        static final int END = 0;
        static final int WORD = 1;
        static final int NUMBER = 2;
        static final int STOP = 3;
        static final int BAD = 4;
        private static final int LONGEST_WORD = 12;
        private static final int LONGEST_NUMBER = 4;
        private static final int FED = 20;

        private final byte[] bytes = new byte[ROOM];
        private int length;
        private int next;
        /** The TOKEN that was read last: which it is, its first byte, and what it says. */
        private int token;
        private int place;
        private int number;
        private long word;

        int append(int a, int b, int c, int d, int e) {
            if (length + FED > ROOM) {
                return FULL;
            }
            put(a);
            put(b);
            put(c);
            put(d);
            put(e);
            return length;
        }

        private void put(int four) {
            for (int shift = 24; shift >= 0 && length < ROOM; shift -= 8) {
                bytes[length] = (byte) (four >> shift);
                length++;
            }
        }

        int cut(int n) {
            if (n < 0 || n > length) {
                return NONE;
            }
            length = n;
            return n;
        }

        void clear() {
            length = 0;
        }

        void rewind() {
            next = 0;
        }

        /** The one WORD that the tape is, NO_WORD if it is anything else; the tape is empty then. */
        long takeWord() {
            rewind();
            readToken();
            long taken = token == WORD ? word : NO_WORD;
            readToken();
            if (token != END) {
                taken = NO_WORD;
            }
            clear();
            return taken;
        }

        void readToken() {
            while (next < length && (bytes[next] == ' ' || bytes[next] == '\n')) {
                next++;
            }
            place = next;
            byte first = next < length ? bytes[next] : 0;
            if (next >= length) {
                token = END;
            } else if (first >= 'a' && first <= 'z') {
                readLetters();
            } else if (first >= '0' && first <= '9') {
                readDigits();
            } else {
                token = first == ';' ? STOP : BAD;
                next++;
            }
        }

        private void readLetters() {
            word = NO_WORD;
            while (next < length && bytes[next] >= 'a' && bytes[next] <= 'z') {
                word = withLetter(word, bytes[next]);
                next++;
            }
            token = next - place > LONGEST_WORD ? BAD : WORD;
        }

        private void readDigits() {
            number = 0;
            while (next < length && bytes[next] >= '0' && bytes[next] <= '9') {
                number = number * 10 + bytes[next] - '0';
                next++;
            }
            token = next - place > LONGEST_NUMBER ? BAD : NUMBER;
        }

        /** Which of some names, told with a blank between, the last TOKEN is; NONE if it is none of them. */
        int among(String names) {
            if (token != WORD) {
                return NONE;
            }
            int index = 0;
            long name = NO_WORD;
            for (int i = 0; i < names.length(); i++) {
                char sign = names.charAt(i);
                if (sign != ' ') {
                    name = withLetter(name, sign);
                } else if (name == word) {
                    return index;
                } else {
                    name = NO_WORD;
                    index++;
                }
            }
            return name == word ? index : NONE;
        }

        private static long withLetter(long word, int letter) {
            return word << 5 | (letter - 'a' + 1);
        }
    }

    /** One VERSION of the rules. Sets of KINDS are bits by KIND. */
    private static final class Rules {
        /** Where settings hold what; rule() asks for them by these numbers. */
        static final int BAR = 0;
        static final int FIRST_DAY = 1;
        static final int FINAL_DAY = 2;
        static final int CHAIN = 3;
        static final int RATE = 4;
        static final int RATE_FROM = 5;
        static final int SPLIT = 6;
        static final int CAP = 7;
        static final int TEST = 8;
        static final int LATE = 9;
        static final int PART = 10;
        static final int SETTINGS = 11;
        static final int CHAIN_LOSS = 0;
        static final int CHAIN_FILING = 1;
        static final int CHAIN_BOTH = 2;
        static final int FROM_LOSS = 0;
        static final int SPLIT_LEAST = 0;
        static final int SPLIT_MEAN = 1;
        static final int SPLIT_UMPIRE = 2;
        static final int MOST_KINDS = 16;
        static final int MOST_TOLD = 10;
        private static final int NEED_UNTOLD = 10;

        private final int[] settings = new int[SETTINGS];
        private final int[] order = new int[ROLES];
        private int kinds;
        private final long[] kindWords = new long[MOST_KINDS];
        private final int[] weights = new int[MOST_KINDS];
        private int needs;
        private final long[] needWords = new long[MOST_TOLD];
        private final int[] needPoints = new int[MOST_TOLD];
        private int musts;
        private int eithers;
        /** A must and an either are alike: of some KINDS one at least has to be had. */
        private final long[] demandWords = new long[2 * MOST_TOLD];
        private final int[] demandKinds = new int[2 * MOST_TOLD];

        Rules() {
            reset();
        }

        private void reset() {
            settings[BAR] = LAST_DAY;
            settings[FIRST_DAY] = 0;
            settings[FINAL_DAY] = LAST_DAY;
            settings[CHAIN] = CHAIN_BOTH;
            settings[RATE] = 0;
            settings[RATE_FROM] = FROM_LOSS;
            settings[SPLIT] = SPLIT_MEAN;
            settings[CAP] = NONE;
            settings[TEST] = 0;
            settings[LATE] = 0;
            settings[PART] = 100;
            for (int role = 0; role < ROLES; role++) {
                order[role] = role;
            }
            kinds = 0;
            needs = 0;
            musts = 0;
            eithers = 0;
        }

        int detail(int what) {
            if (what >= 0 && what < SETTINGS) {
                return settings[what];
            }
            if (what >= 20 && what < 20 + ROLES) {
                return order[what - 20];
            }
            if (what >= 30 && what < 30 + kinds) {
                return weights[what - 30];
            }
            switch (what) {
                case 11:
                    return kinds;
                case 12:
                    return musts;
                case 13:
                    return eithers;
                default:
                    return NO_SUCH;
            }
        }

        void set(int setting, int value) {
            if (setting >= 0 && setting < SETTINGS) {
                settings[setting] = value;
            }
        }

        /** A ROLE comes to a place in the order; those that it passes keep theirs among one another. */
        void moveRole(int role, int to) {
            for (int i = ROLES - 1; i > to && i > 0; i--) {
                if (order[i] == role) {
                    order[i] = order[i - 1];
                    order[i - 1] = role;
                }
            }
        }

        int kindOf(long word) {
            for (int kind = 0; kind < kinds; kind++) {
                if (kindWords[kind] == word) {
                    return kind;
                }
            }
            return NONE;
        }

        /** The KIND of a word, which may be a new one; NONE if there is no room for it. */
        int kindFor(long word) {
            int kind = kindOf(word);
            if (kind != NONE || kinds >= MOST_KINDS) {
                return kind;
            }
            kindWords[kinds] = word;
            weights[kinds] = 0;
            kinds++;
            return kinds - 1;
        }

        boolean isWeighed(long word) {
            int kind = kindOf(word);
            return kind != NONE && weights[kind] > 0;
        }

        void weigh(int kind, int points) {
            if (kind >= 0 && kind < kinds) {
                weights[kind] = points;
            }
        }

        boolean isNeedTold(long word) {
            return needIndex(word) != NONE;
        }

        int needOf(long word) {
            int index = needIndex(word);
            return index == NONE ? NEED_UNTOLD : needPoints[index];
        }

        private int needIndex(long word) {
            for (int i = 0; i < needs; i++) {
                if (needWords[i] == word) {
                    return i;
                }
            }
            return NONE;
        }

        void addNeed(long word, int points) {
            if (needs < MOST_TOLD) {
                needWords[needs] = word;
                needPoints[needs] = points;
                needs++;
            }
        }

        void addMust(long word, int kind) {
            if (musts < MOST_TOLD) {
                addDemand(word, 1 << kind);
                musts++;
            }
        }

        void addEither(long word, int kind, int otherKind) {
            if (eithers < MOST_TOLD) {
                addDemand(word, 1 << kind | 1 << otherKind);
                eithers++;
            }
        }

        private void addDemand(long word, int anyOf) {
            int index = musts + eithers;
            if (index < 2 * MOST_TOLD) {
                demandWords[index] = word;
                demandKinds[index] = anyOf;
            }
        }

        int pointsOf(int had) {
            int points = 0;
            for (int kind = 0; kind < kinds; kind++) {
                if ((had >> kind & 1) != 0) {
                    points += weights[kind];
                }
            }
            return points;
        }

        boolean meetsDemands(long word, int had) {
            for (int i = 0; i < musts + eithers; i++) {
                if (demandWords[i] == word && (demandKinds[i] & had) == 0) {
                    return false;
                }
            }
            return true;
        }

        private boolean isShown(long word, int had) {
            return pointsOf(had) >= needOf(word) && meetsDemands(word, had);
        }

        /** The fewest KINDS that would have to be had besides; of as many the least set; NONE if no set would do. */
        int lackingKinds(long word, int had) {
            for (int size = 0; size <= kinds; size++) {
                int set = leastBesides(this, word, had, kinds, size);
                if (set != NONE) {
                    return set;
                }
            }
            return NONE;
        }

        /**
         * The least set of at most so many KINDS below one that would do. A set without the highest KIND is less
         * than any with it, so that is tried first.
         */
        private static int leastBesides(Rules rules, long word, int had, int below, int size) {
            if (rules.isShown(word, had)) {
                return 0;
            }
            if (size <= 0 || below <= 0 || rules.isHopeless(word, had, below, size)) {
                return NONE;
            }
            int without = leastBesides(rules, word, had, below - 1, size);
            int highest = 1 << (below - 1);
            if (without != NONE || (had & highest) != 0) {
                return without;
            }
            int with = leastBesides(rules, word, had | highest, below - 1, size - 1);
            return with == NONE ? NONE : with | highest;
        }

        /** Without this the search would go through all sets of KINDS. */
        private boolean isHopeless(long word, int had, int below, int size) {
            if (pointsOf(had) + heaviest(had, below, size) < needOf(word)) {
                return true;
            }
            return !meetsDemands(word, had | ((1 << below) - 1));
        }

        /** The points of the heaviest KINDS, so many of them, that are below one and not had. */
        private int heaviest(int had, int below, int size) {
            int taken = had;
            int points = 0;
            for (int i = 0; i < size; i++) {
                int best = NONE;
                for (int kind = 0; kind < below && kind < kinds; kind++) {
                    if ((taken >> kind & 1) == 0 && (best == NONE || weights[kind] > weights[best])) {
                        best = kind;
                    }
                }
                if (best == NONE) {
                    return points;
                }
                points += weights[best];
                taken |= 1 << best;
            }
            return points;
        }

        /** The least KIND without which what is had wouldn't do; NONE if there is no such one. */
        int weakestKind(long word, int had) {
            for (int kind = 0; kind < kinds; kind++) {
                if (!isShown(word, had & ~(1 << kind))) {
                    return kind;
                }
            }
            return NONE;
        }
    }

    /** Reads a text of rules from the tape into a draft, so that a text with a FAULT changes no VERSION. */
    private static final class RulesReader {
        private static final int SYNTAX_FAULT = 1;
        private static final int RANGE_FAULT = 2;
        private static final int TWICE_FAULT = 3;
        private static final int ROOM_FAULT = 4;
        private static final String CLAUSES =
            "bar days chain rate split cap test late part order weigh need must either";
        private static final int BAR = 0;
        private static final int DAYS = 1;
        private static final int CHAIN = 2;
        private static final int RATE = 3;
        private static final int SPLIT = 4;
        private static final int CAP = 5;
        private static final int TEST = 6;
        private static final int LATE = 7;
        private static final int PART = 8;
        private static final int ORDER = 9;
        private static final int WEIGH = 10;
        private static final int NEED = 11;
        private static final int MUST = 12;
        private static final int EITHER = 13;
        private static final String ROLE_NAMES = "owner cargo lender insurer";
        private static final String CHAIN_NAMES = "loss filing both always";
        private static final String FROM_NAMES = "loss filing";
        private static final String SPLIT_NAMES = "least mean umpire";

        private final Tape tape;
        private Rules draft = new Rules();
        /** Bits by clause. */
        private int told;
        private int faultKind;
        private int faultPlace = NONE;

        RulesReader(Tape tape) {
            this.tape = tape;
        }

        /** The draft, for rules that nobody needs any more: they are the next draft. */
        Rules exchange(Rules old) {
            Rules read = draft;
            draft = old;
            return read;
        }

        /** How many clauses there are; NONE with a FAULT. */
        int readRules() {
            draft.reset();
            told = 0;
            faultKind = 0;
            faultPlace = NONE;
            int clauses = 0;
            tape.rewind();
            tape.readToken();
            while (clauses < Tape.ROOM && tape.token != Tape.END) {
                int clause = tape.among(CLAUSES);
                if (!begins(clause) || !readBody(clause)) {
                    return NONE;
                }
                if (clause != ORDER && !readStop()) {
                    return NONE;
                }
                clauses++;
                tape.readToken();
            }
            return clauses;
        }

        private boolean begins(int clause) {
            if (clause == NONE) {
                return refuse(SYNTAX_FAULT);
            }
            if (clause <= ORDER && (told >> clause & 1) != 0) {
                return refuse(TWICE_FAULT);
            }
            if (isFull(clause)) {
                return refuse(ROOM_FAULT);
            }
            told |= 1 << clause;
            return true;
        }

        private boolean isFull(int clause) {
            switch (clause) {
                case NEED:
                    return draft.needs >= Rules.MOST_TOLD;
                case MUST:
                    return draft.musts >= Rules.MOST_TOLD;
                case EITHER:
                    return draft.eithers >= Rules.MOST_TOLD;
                default:
                    return false;
            }
        }

        private boolean readBody(int clause) {
            switch (clause) {
                case BAR:
                    return readSetting(Rules.BAR, 0, LAST_DAY);
                case DAYS:
                    return readSetting(Rules.FIRST_DAY, 0, LAST_DAY)
                        && readSetting(Rules.FINAL_DAY, draft.settings[Rules.FIRST_DAY], LAST_DAY);
                case CHAIN:
                    return readChoice(Rules.CHAIN, CHAIN_NAMES);
                case RATE:
                    return readSetting(Rules.RATE, 0, 99) && readChoice(Rules.RATE_FROM, FROM_NAMES);
                case SPLIT:
                    return readChoice(Rules.SPLIT, SPLIT_NAMES);
                case CAP:
                    return readSetting(Rules.CAP, 1, 9999);
                case TEST:
                    return readSetting(Rules.TEST, 0, 10);
                case LATE:
                    return readSetting(Rules.LATE, 0, LAST_DAY);
                case PART:
                    return readSetting(Rules.PART, 1, 100);
                case ORDER:
                    return readOrder();
                case WEIGH:
                    return readWeigh();
                case NEED:
                    return readNeed();
                case MUST:
                    return readMust();
                case EITHER:
                    return readEither();
                default:
                    return false;
            }
        }

        private boolean readSetting(int setting, int least, int most) {
            if (!readNumber(least, most)) {
                return false;
            }
            draft.set(setting, tape.number);
            return true;
        }

        private boolean readChoice(int setting, String names) {
            tape.readToken();
            int choice = tape.among(names);
            if (choice == NONE) {
                return refuse(SYNTAX_FAULT);
            }
            draft.set(setting, choice);
            return true;
        }

        /** The ROLES end with the clause's end, so that is read here too. */
        private boolean readOrder() {
            int seen = 0;
            for (int place = 0; place <= ROLES; place++) {
                tape.readToken();
                if (place > 0 && tape.token == Tape.STOP) {
                    return true;
                }
                int role = tape.among(ROLE_NAMES);
                if (role == NONE) {
                    return refuse(SYNTAX_FAULT);
                }
                if ((seen >> role & 1) != 0) {
                    return refuse(TWICE_FAULT);
                }
                seen |= 1 << role;
                draft.moveRole(role, place);
            }
            return false;
        }

        private boolean readWeigh() {
            if (!readWord()) {
                return false;
            }
            if (draft.isWeighed(tape.word)) {
                return refuse(TWICE_FAULT);
            }
            int kind = draft.kindFor(tape.word);
            if (kind == NONE) {
                return refuse(ROOM_FAULT);
            }
            if (!readNumber(1, 99)) {
                return false;
            }
            draft.weigh(kind, tape.number);
            return true;
        }

        private boolean readNeed() {
            if (!readWord()) {
                return false;
            }
            long word = tape.word;
            if (draft.isNeedTold(word)) {
                return refuse(TWICE_FAULT);
            }
            if (!readNumber(0, 999)) {
                return false;
            }
            draft.addNeed(word, tape.number);
            return true;
        }

        private boolean readMust() {
            if (!readWord()) {
                return false;
            }
            long word = tape.word;
            int kind = readKind();
            if (kind == NONE) {
                return false;
            }
            draft.addMust(word, kind);
            return true;
        }

        private boolean readEither() {
            if (!readWord()) {
                return false;
            }
            long word = tape.word;
            int kind = readKind();
            int otherKind = kind == NONE ? NONE : readKind();
            if (otherKind == NONE) {
                return false;
            }
            draft.addEither(word, kind, otherKind);
            return true;
        }

        private int readKind() {
            tape.readToken();
            if (tape.token != Tape.WORD) {
                refuse(SYNTAX_FAULT);
                return NONE;
            }
            int kind = draft.kindFor(tape.word);
            if (kind == NONE) {
                refuse(ROOM_FAULT);
            }
            return kind;
        }

        private boolean readWord() {
            tape.readToken();
            return tape.token == Tape.WORD || refuse(SYNTAX_FAULT);
        }

        private boolean readStop() {
            tape.readToken();
            return tape.token == Tape.STOP || refuse(SYNTAX_FAULT);
        }

        private boolean readNumber(int least, int most) {
            tape.readToken();
            if (tape.token != Tape.NUMBER) {
                return refuse(SYNTAX_FAULT);
            }
            return within(tape.number, least, most) || refuse(RANGE_FAULT);
        }

        /** Never true, so that a reader can answer with it. */
        private boolean refuse(int kind) {
            faultKind = kind;
            faultPlace = tape.place;
            return false;
        }
    }

    /** Persons, what is told of them, who of them is an umpire, and what came to them. */
    private static final class People {
        static final int NATION = 0;
        static final int DEATH = 1;
        static final int HEIR = 2;
        private static final int MOST = 60;
        private static final int MOST_TELLINGS = 200;
        /** How often what is paid goes on from one who is dead to the heirs. */
        private static final int PASSINGS = 3;

        private int persons;
        private final boolean[] listed = new boolean[MOST];
        private final int[] purses = new int[MOST];
        private int tellings;
        /** Of each telling: which it is, of whom, from which day on it is known. */
        private final int[] tellingKinds = new int[MOST_TELLINGS];
        private final int[] tellingOf = new int[MOST_TELLINGS];
        private final int[] tellingKnown = new int[MOST_TELLINGS];
        /** The first day; of HEIR the heir. */
        private final int[] tellingFrom = new int[MOST_TELLINGS];
        /** The nation; of HEIR the parts. */
        private final int[] tellingSays = new int[MOST_TELLINGS];
        /** The heirs that were listed last, a row for each passing, as one goes on while another is still read. */
        private final int[][] heirs = new int[PASSINGS][MOST];
        private final int[][] parts = new int[PASSINGS][MOST];

        boolean has(int p) {
            return p >= 0 && p < persons;
        }

        int add() {
            if (persons >= MOST) {
                return FULL;
            }
            persons++;
            return persons - 1;
        }

        int tell(int kind, int p, int from, int says, int today) {
            if (tellings >= MOST_TELLINGS) {
                return FULL;
            }
            tellingKinds[tellings] = kind;
            tellingOf[tellings] = p;
            tellingKnown[tellings] = today;
            tellingFrom[tellings] = from;
            tellingSays[tellings] = says;
            tellings++;
            return tellings;
        }

        private boolean isTold(int telling, int kind, int p, int known) {
            return tellingKinds[telling] == kind && tellingOf[telling] == p && tellingKnown[telling] <= known;
        }

        int nationFor(int p, int day, int known) {
            int nation = 0;
            int latest = NONE;
            for (int i = 0; i < tellings; i++) {
                if (isTold(i, NATION, p, known) && tellingFrom[i] <= day && tellingFrom[i] >= latest) {
                    latest = tellingFrom[i];
                    nation = tellingSays[i];
                }
            }
            return nation;
        }

        /** Whether one is of a nation on each day: the first is looked at, and those on which another may begin. */
        boolean isAlwaysOf(int p, int nation, int from, int to, int known) {
            if (nationFor(p, from, known) != nation) {
                return false;
            }
            for (int i = 0; i < tellings; i++) {
                boolean begins = isTold(i, NATION, p, known) && tellingFrom[i] > from && tellingFrom[i] <= to;
                if (begins && nationFor(p, tellingFrom[i], known) != nation) {
                    return false;
                }
            }
            return true;
        }

        boolean isDead(int p, int day, int known) {
            for (int i = 0; i < tellings; i++) {
                if (isTold(i, DEATH, p, known) && tellingFrom[i] <= day) {
                    return true;
                }
            }
            return false;
        }

        int heirDetail(int p, int known, int i, int what) {
            int found = listHeirs(p, known, 0);
            if (i < 0 || i >= found) {
                return NONE;
            }
            switch (what) {
                case 0:
                    return heirs[0][i];
                case 1:
                    return parts[0][i];
                default:
                    return NONE;
            }
        }

        /** Fills a row with the heirs, in the order in which they were first told: how many there are. */
        private int listHeirs(int p, int known, int row) {
            int found = 0;
            for (int i = 0; i < tellings; i++) {
                if (isTold(i, HEIR, p, known)) {
                    int index = 0;
                    while (index < found && heirs[row][index] != tellingFrom[i]) {
                        index++;
                    }
                    if (index < MOST) {
                        heirs[row][index] = tellingFrom[i];
                        parts[row][index] = tellingSays[i];
                        found = Math.max(found, index + 1);
                    }
                }
            }
            return found;
        }

        /** What is paid to one comes to their purse, or, if they are dead, to their heirs. */
        void receive(int p, int sum, int today) {
            hand(this, p, sum, today, 0);
        }

        private static void hand(People people, int p, int sum, int today, int passings) {
            if (passings < 0 || passings >= PASSINGS || !people.isDead(p, today, today)) {
                people.keep(p, sum);
                return;
            }
            int found = people.listHeirs(p, today, passings);
            int[] parts = people.parts[passings];
            int whole = 0;
            for (int i = 0; i < found; i++) {
                whole += parts[i];
            }
            if (whole <= 0) {
                people.keep(p, sum);
                return;
            }
            int left = sum;
            for (int i = 0; i < found; i++) {
                left -= (int) ((long) sum * parts[i] / whole);
            }
            for (int i = 0; i < found; i++) {
                int share = (int) ((long) sum * parts[i] / whole) + (i < left ? 1 : 0);
                if (share > 0) {
                    hand(people, people.heirs[passings][i], share, today, passings + 1);
                }
            }
        }

        private void keep(int p, int sum) {
            if (has(p)) {
                purses[p] += sum;
            }
        }

        int purseOf(int p) {
            return has(p) ? purses[p] : 0;
        }

        /** Whether it was otherwise. */
        boolean enlist(int p, boolean is) {
            if (!has(p) || listed[p] == is) {
                return false;
            }
            listed[p] = is;
            return true;
        }

        int countForLot(int oneSide, int otherSide, int today) {
            int able = 0;
            for (int p = 0; p < persons; p++) {
                if (isForLot(p, oneSide, otherSide, today)) {
                    able++;
                }
            }
            return able;
        }

        /** The one at a number among those who can be drawn; NONE if there are not so many. */
        int drawnBy(int number, int oneSide, int otherSide, int today) {
            int able = 0;
            for (int p = 0; p < persons; p++) {
                if (isForLot(p, oneSide, otherSide, today)) {
                    if (able == number) {
                        return p;
                    }
                    able++;
                }
            }
            return NONE;
        }

        private boolean isForLot(int p, int oneSide, int otherSide, int today) {
            if (!has(p) || !listed[p] || isDead(p, today, today)) {
                return false;
            }
            int nation = nationFor(p, today, today);
            return nation != oneSide && nation != otherSide;
        }
    }

    /** What 100 of a currency are, from days on. */
    private static final class Rates {
        private static final int MOST = 60;
        private static final int UNTOLD = 100;
        private static final int MOST_AMOUNT = 999999;

        private int told;
        private final int[] currencies = new int[MOST];
        private final int[] days = new int[MOST];
        private final int[] pence = new int[MOST];

        int add(int currency, int day, int coins) {
            if (told >= MOST) {
                return FULL;
            }
            currencies[told] = currency;
            days[told] = day;
            pence[told] = coins;
            told++;
            return told;
        }

        int penceFor(int currency, int day) {
            int found = UNTOLD;
            int latest = NONE;
            for (int i = 0; i < told; i++) {
                if (currencies[i] == currency && days[i] <= day && days[i] >= latest) {
                    latest = days[i];
                    found = pence[i];
                }
            }
            return found;
        }

        int amountOf(int sum, int currency, int day) {
            return (int) Math.min(MOST_AMOUNT, (long) sum * penceFor(currency, day) / 100);
        }
    }

    /** What was lost, and what it was worth: as told, or as the things most like it. */
    private static final class Things {
        private static final int MOST = 30;
        private static final int MARKS = 8;

        private int things;
        private final int[] days = new int[MOST];
        private final int[] marks = new int[MOST];
        /** NONE where none was told. */
        private final int[] worths = new int[MOST];
        /** The worths of the likes, as they rise. */
        private final int[] likes = new int[MOST];

        boolean has(int t) {
            return t >= 0 && t < things;
        }

        int add(int day, int bits, int worth) {
            if (things >= MOST) {
                return FULL;
            }
            days[things] = day;
            marks[things] = bits;
            worths[things] = worth;
            things++;
            return things - 1;
        }

        int dayOf(int t) {
            return has(t) ? days[t] : 0;
        }

        int worthOf(int t) {
            return likeAt((listLikes(t) - 1) / 2);
        }

        int detail(int t, int what) {
            if (!has(t)) {
                return NONE;
            }
            switch (what) {
                case 0:
                    return days[t];
                case 1:
                    return marks[t];
                case 2:
                    return worthOf(t);
                case 3:
                    return worths[t] == NONE ? 0 : 1;
                case 4:
                    listLikes(t);
                    return likeAt(0);
                case 5:
                    return likeAt(listLikes(t) - 1);
                default:
                    return NONE;
            }
        }

        private int likeAt(int index) {
            return index >= 0 && index < MOST ? likes[index] : 0;
        }

        /**
         * Fills the row of likes: how many there are. A thing with a told worth is its only like, and one without
         * any like is as if one were worth nothing, so that each has a least, a middle and a greatest.
         */
        private int listLikes(int t) {
            likes[0] = 0;
            if (!has(t)) {
                return 1;
            }
            if (worths[t] != NONE) {
                likes[0] = worths[t];
                return 1;
            }
            int fewest = fewestUnlike(marks[t]);
            int found = 0;
            for (int i = 0; i < things; i++) {
                if (worths[i] != NONE && Integer.bitCount(marks[i] ^ marks[t]) == fewest) {
                    insert(worths[i], found);
                    found++;
                }
            }
            return Math.max(found, 1);
        }

        private int fewestUnlike(int bits) {
            int fewest = MARKS;
            for (int i = 0; i < things; i++) {
                if (worths[i] != NONE) {
                    fewest = Math.min(fewest, Integer.bitCount(marks[i] ^ bits));
                }
            }
            return fewest;
        }

        /** A worth comes among so many that rise. */
        private void insert(int worth, int found) {
            int at = Math.min(found, MOST - 1);
            while (at > 0 && likes[at - 1] > worth) {
                likes[at] = likes[at - 1];
                at--;
            }
            likes[at] = worth;
        }
    }

    /** One claim on a thing, and how it stands. */
    private static final class Claim {
        static final int OPEN = 0;
        static final int SPLIT = 1;
        static final int DECIDED = 2;
        static final int WITHDRAWN = 3;

        private final int claimant;
        private final int nation;
        private final int thing;
        private final int role;
        private final int amount;
        private final int filedOn;
        private final long word;
        private int marks;
        private int state = OPEN;
        private int sum;
        private int award;
        private int paid;
        private int decidedOn = NONE;
        private int oneVote;
        private int otherVote;
        /** What failed, and what was due, as it was decided. */
        private int keptFailures;
        private int keptDue;
        /** What it had when its thing was parted last; stale until then. */
        private int share;

        Claim(int claimant, int nation, int thing, int role, int amount, int filedOn, long word) {
            this.claimant = claimant;
            this.nation = nation;
            this.thing = thing;
            this.role = role;
            this.amount = amount;
            this.filedOn = filedOn;
            this.word = word;
        }

        int detail(int what) {
            switch (what) {
                case 0:
                    return claimant;
                case 1:
                    return nation;
                case 2:
                    return thing;
                case 3:
                    return role;
                case 4:
                    return amount;
                case 5:
                    return filedOn;
                case 6:
                    return marks;
                case 7:
                    return state;
                case 8:
                    return sum;
                case 9:
                    return award;
                case 10:
                    return paid;
                case 11:
                    return decidedOn;
                case 12:
                    return oneVote;
                case 13:
                    return otherVote;
                default:
                    return NO_SUCH;
            }
        }

        boolean isLike(Claim other, int unlikeMarks) {
            return other != null && word == other.word && Integer.bitCount(marks ^ other.marks) <= unlikeMarks;
        }

        /** What one that is due so much gets in the measure of this decided one. */
        int measureOf(int due) {
            return keptDue <= 0 ? 0 : (int) Math.min(due, (long) due * sum / keptDue);
        }

        void divide(int a, int b) {
            state = SPLIT;
            oneVote = a;
            otherVote = b;
        }

        void reopen() {
            state = OPEN;
            sum = 0;
            award = 0;
            decidedOn = NONE;
        }
    }

    /** One paper of a claim. */
    private static final class Paper {
        private final Claim claim;
        private final long word;
        private final int issuer;
        private final int day;
        private final int known;

        Paper(Claim claim, long word, int issuer, int day, int known) {
            this.claim = claim;
            this.word = word;
            this.issuer = issuer;
            this.day = day;
            this.known = known;
        }
    }

    /** All claims and papers: what fails, what is due, and what is decided. */
    private static final class Docket {
        static final int MOST_CLAIMS = 60;
        private static final int MOST_PAPERS = 150;
        private static final int FILED_LATE = 1;
        private static final int LOST_OUTSIDE = 2;
        private static final int OTHER_NATION = 4;
        private static final int FEW_POINTS = 8;
        private static final int DEMAND_UNMET = 16;
        private static final int WAS_WITHDRAWN = 32;

        private final People people;
        private final Things things;
        private final ArrayList<Claim> claims = new ArrayList<>();
        private final ArrayList<Paper> papers = new ArrayList<>();

        Docket(People people, Things things) {
            this.people = people;
            this.things = things;
        }

        Claim claimAt(int c) {
            return c >= 0 && c < claims.size() ? claims.get(c) : null;
        }

        Paper paperAt(int k) {
            return k >= 0 && k < papers.size() ? papers.get(k) : null;
        }

        int file(Claim claim) {
            if (claims.size() >= MOST_CLAIMS) {
                return FULL;
            }
            claims.add(claim);
            return claims.size() - 1;
        }

        int bring(Paper paper) {
            if (papers.size() >= MOST_PAPERS) {
                return FULL;
            }
            papers.add(paper);
            return papers.size() - 1;
        }

        boolean isForged(Paper paper, int known) {
            return paper.issuer != NONE && people.isDead(paper.issuer, paper.day, known);
        }

        /** The KINDS of its papers that are known by then and not forged. */
        int hadKinds(Claim claim, Rules rules, int known) {
            int had = 0;
            for (int i = 0; i < papers.size(); i++) {
                Paper paper = papers.get(i);
                if (paper.claim == claim && paper.known <= known) {
                    int kind = rules.kindOf(paper.word);
                    if (kind != NONE && !isForged(paper, known)) {
                        had |= 1 << kind;
                    }
                }
            }
            return had;
        }

        int failuresOf(Claim claim, Rules rules, int known) {
            int lost = things.dayOf(claim.thing);
            int had = hadKinds(claim, rules, known);
            int failures = 0;
            if (claim.filedOn > rules.settings[Rules.BAR]) {
                failures |= FILED_LATE;
            }
            if (!within(lost, rules.settings[Rules.FIRST_DAY], rules.settings[Rules.FINAL_DAY])) {
                failures |= LOST_OUTSIDE;
            }
            if (!isOfNation(claim, lost, rules.settings[Rules.CHAIN], known)) {
                failures |= OTHER_NATION;
            }
            if (rules.pointsOf(had) < rules.needOf(claim.word)) {
                failures |= FEW_POINTS;
            }
            if (!rules.meetsDemands(claim.word, had)) {
                failures |= DEMAND_UNMET;
            }
            if (claim.state == Claim.WITHDRAWN) {
                failures |= WAS_WITHDRAWN;
            }
            return failures;
        }

        private boolean isOfNation(Claim claim, int lost, int chain, int known) {
            boolean onLoss = people.nationFor(claim.claimant, lost, known) == claim.nation;
            boolean onFiling = people.nationFor(claim.claimant, claim.filedOn, known) == claim.nation;
            switch (chain) {
                case Rules.CHAIN_LOSS:
                    return onLoss;
                case Rules.CHAIN_FILING:
                    return onFiling;
                case Rules.CHAIN_BOTH:
                    return onLoss && onFiling;
                default:
                    // nothing is filed ahead of its loss
                    return people.isAlwaysOf(claim.claimant, claim.nation, lost, claim.filedOn, known);
            }
        }

        int provenByOneAlone(Rules one, Rules other, int today) {
            int found = 0;
            for (int i = 0; i < claims.size(); i++) {
                Claim claim = claims.get(i);
                if (failuresOf(claim, one, today) == 0 && failuresOf(claim, other, today) != 0) {
                    found++;
                }
            }
            return found;
        }

        int countOf(int state) {
            int found = 0;
            for (int i = 0; i < claims.size(); i++) {
                if (claims.get(i).state == state) {
                    found++;
                }
            }
            return found;
        }

        int sumOfAwards() {
            int sum = 0;
            for (int i = 0; i < claims.size(); i++) {
                sum += claims.get(i).award;
            }
            return sum;
        }

        /** The amounts of those that are open or split. */
        int pendingAmounts() {
            int sum = 0;
            for (int i = 0; i < claims.size(); i++) {
                Claim claim = claims.get(i);
                if (claim.state == Claim.OPEN || claim.state == Claim.SPLIT) {
                    sum += claim.amount;
                }
            }
            return sum;
        }

        /** Gives each claim on its thing a share of the worth, role by role: the share of this one. */
        int dueOf(Claim asked, Rules rules, int today) {
            long proven = 0;
            for (int i = 0; i < claims.size(); i++) {
                Claim claim = claims.get(i);
                if (claim.thing == asked.thing) {
                    claim.share = 0;
                    if (failuresOf(claim, rules, today) == 0) {
                        proven |= 1L << i;
                    }
                }
            }
            int left = things.worthOf(asked.thing);
            for (int i = 0; i < ROLES; i++) {
                left = partRole(proven, rules.order[i], left);
            }
            return asked.share;
        }

        /** Gives those of a role, among some, their shares: what is left then. */
        private int partRole(long among, int role, int left) {
            int asked = 0;
            for (int i = 0; i < claims.size(); i++) {
                Claim claim = claims.get(i);
                if ((among >> i & 1) != 0 && claim.role == role) {
                    claim.share = claim.amount;
                    asked += claim.amount;
                }
            }
            if (asked <= left) {
                return left - asked;
            }
            int over = left;
            for (int i = 0; i < claims.size(); i++) {
                Claim claim = claims.get(i);
                if ((among >> i & 1) != 0 && claim.role == role) {
                    claim.share = asked <= 0 ? 0 : (int) ((long) left * claim.amount / asked);
                    over -= claim.share;
                }
            }
            for (int i = 0; i < claims.size() && over > 0; i++) {
                Claim claim = claims.get(i);
                if ((among >> i & 1) != 0 && claim.role == role) {
                    claim.share++;
                    over--;
                }
            }
            return 0;
        }

        void decide(Claim claim, int sum, int due, Rules rules, int today) {
            claim.award = awardOf(claim, sum, rules, today);
            claim.state = Claim.DECIDED;
            claim.sum = sum;
            claim.decidedOn = today;
            claim.oneVote = 0;
            claim.otherVote = 0;
            claim.keptFailures = failuresOf(claim, rules, today);
            claim.keptDue = due;
        }

        private int awardOf(Claim claim, int sum, Rules rules, int today) {
            boolean fromLoss = rules.settings[Rules.RATE_FROM] == Rules.FROM_LOSS;
            int days = today - (fromLoss ? things.dayOf(claim.thing) : claim.filedOn);
            long award = sum + (long) sum * rules.settings[Rules.RATE] * days / 36000;
            int cap = rules.settings[Rules.CAP];
            if (cap != NONE) {
                award = Math.min(award, Math.max(0, cap * 1000 - sumOfAwards()));
            }
            return (int) award;
        }
    }

    /** The few open claims whose like cases are the most. Sets of claims are bits by number. */
    private static final class TestCases {
        static final int MOST = 3;

        /** Of each claim the open ones that are like cases of it; none of one that isn't open. */
        private final long[] likes = new long[Docket.MOST_CLAIMS];
        private final int[] chosen = new int[MOST];
        private int size;
        private int covered;
        private int claims;
        /** The most like cases that one claim has. */
        private int widest;

        int chosenAt(int i) {
            return i >= 0 && i < size && i < MOST ? chosen[i] : NONE;
        }

        /** Smaller sets come first, and of each size the least rows, so that only a better one takes their place. */
        int choose(Docket docket, int unlikeMarks, int most) {
            findLikes(docket, unlikeMarks);
            size = 0;
            covered = 0;
            for (int i = 0; i < claims; i++) {
                offer(likes[i], 1, i, NONE, NONE);
            }
            widest = covered;
            if (most > 1) {
                offerPairs();
            }
            if (most > 2) {
                offerTriples();
            }
            return covered;
        }

        private void findLikes(Docket docket, int unlikeMarks) {
            claims = Math.min(docket.claims.size(), Docket.MOST_CLAIMS);
            Arrays.fill(likes, 0);
            for (int i = 0; i < claims; i++) {
                for (int j = 0; j <= i; j++) {
                    Claim one = docket.claims.get(i);
                    Claim other = docket.claims.get(j);
                    boolean open = one.state == Claim.OPEN && other.state == Claim.OPEN;
                    if (open && one.isLike(other, unlikeMarks)) {
                        likes[i] |= 1L << j;
                        likes[j] |= 1L << i;
                    }
                }
            }
        }

        private void offerPairs() {
            for (int i = 0; i < claims; i++) {
                for (int j = i + 1; j < claims; j++) {
                    if (likes[i] != 0 && likes[j] != 0) {
                        offer(likes[i] | likes[j], 2, i, j, NONE);
                    }
                }
            }
        }

        private void offerTriples() {
            for (int i = 0; i < claims; i++) {
                for (int j = i + 1; j < claims; j++) {
                    if (likes[i] != 0 && likes[j] != 0) {
                        offerThirds(i, j);
                    }
                }
            }
        }

        private void offerThirds(int i, int j) {
            long pair = likes[i] | likes[j];
            if (Long.bitCount(pair) + widest <= covered) {
                return;
            }
            for (int k = j + 1; k < claims; k++) {
                if (likes[k] != 0) {
                    offer(pair | likes[k], 3, i, j, k);
                }
            }
        }

        private void offer(long cover, int many, int i, int j, int k) {
            int cases = Long.bitCount(cover);
            if (cases > covered) {
                covered = cases;
                size = many;
                chosen[0] = i;
                chosen[1] = j;
                chosen[2] = k;
            }
        }
    }

    /** What came, what coin there is, and how it is paid. */
    private static final class Fund {
        static final int MOST = 999999999;

        private final People people;
        private final Docket docket;
        private int came;
        private int coin;
        private final long[] shares = new long[Docket.MOST_CLAIMS];
        private final long[] rests = new long[Docket.MOST_CLAIMS];

        Fund(People people, Docket docket) {
            this.people = people;
            this.docket = docket;
        }

        int take(int pence) {
            came += pence;
            coin += pence;
            return came;
        }

        int payWave(int part, int today) {
            long asked = (long) docket.sumOfAwards() + docket.pendingAmounts();
            if (asked <= 0) {
                return 0;
            }
            long thousandths = Math.min(10L * part, 1000L * came / asked);
            int paid = 0;
            for (int i = 0; i < docket.claims.size(); i++) {
                Claim claim = docket.claims.get(i);
                paid += pay(claim, claim.award * thousandths / 1000 - claim.paid, today);
            }
            return paid;
        }

        /** Pays on a claim as far as there is coin: how much. */
        private int pay(Claim claim, long sum, int today) {
            int paid = (int) Math.min(sum, coin);
            if (paid <= 0) {
                return 0;
            }
            claim.paid += paid;
            coin -= paid;
            people.receive(claim.claimant, paid, today);
            return paid;
        }

        int payLast(int today) {
            long wanted = 0;
            for (int i = 0; i < docket.claims.size(); i++) {
                wanted += wantOf(docket.claims.get(i));
            }
            if (coin < wanted) {
                partCoin(wanted);
            }
            boolean enough = coin >= wanted;
            int paid = 0;
            for (int i = 0; i < docket.claims.size() && i < Docket.MOST_CLAIMS; i++) {
                Claim claim = docket.claims.get(i);
                paid += pay(claim, enough ? wantOf(claim) : shares[i], today);
            }
            return paid;
        }

        private static long wantOf(Claim claim) {
            return Math.max(0, claim.award - claim.paid);
        }

        /** Fills the row of shares with all coin, in the measure of what is wanted. */
        private void partCoin(long wanted) {
            if (wanted <= 0) {
                return;
            }
            int claims = Math.min(docket.claims.size(), Docket.MOST_CLAIMS);
            long over = coin;
            for (int i = 0; i < claims; i++) {
                long measured = coin * wantOf(docket.claims.get(i));
                shares[i] = measured / wanted;
                rests[i] = measured % wanted;
                over -= shares[i];
            }
            for (int i = 0; i < claims && over > 0; i++) {
                int greatest = greatestRest(claims);
                shares[greatest]++;
                rests[greatest] = NONE;
                over--;
            }
        }

        private int greatestRest(int claims) {
            int greatest = 0;
            for (int i = 1; i < claims && i < Docket.MOST_CLAIMS; i++) {
                if (rests[i] > rests[greatest]) {
                    greatest = i;
                }
            }
            return greatest;
        }
    }
}
