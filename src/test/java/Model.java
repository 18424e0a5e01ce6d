import java.math.BigInteger;
import java.util.ArrayList;
import java.util.Arrays;
import java.util.Collections;
import java.util.LinkedHashMap;
import java.util.List;
import java.util.Map;
import java.util.TreeMap;
import java.util.regex.Matcher;
import java.util.regex.Pattern;

/** The document once more, in the slowest and plainest way: days one by one, sets one by one. */
final class Model {
    static final int NONE = -1;
    static final int RANGE = -2;
    static final int FULL = -3;
    static final int STATE = -4;

    record Telling(String what, int of, int known, int from, int says) { }
    record Rate(int currency, int day, int pence) { }
    record Thing(int day, int marks, int worth) { }
    record Paper(int claim, String word, int issuer, int day, int known) { }
    record Demand(String word, List<String> anyOf) { }

    static final class Claim {
        int claimant, nation, thing, role, amount, filed, marks, state, sum, award, paid, decided = NONE;
        int voteA, voteB, keptFails, keptDue;
        String word;
    }

    static final class Version {
        int bar = 1999, dayA = 0, dayB = 1999, chain = 2, rate, from, split = 1, cap = NONE, test, late, part = 100;
        List<String> kinds = new ArrayList<>();
        Map<String, Integer> weigh = new TreeMap<>();
        Map<String, Integer> need = new TreeMap<>();
        List<Demand> musts = new ArrayList<>();
        List<Demand> eithers = new ArrayList<>();
        List<Integer> order = new ArrayList<>(List.of(0, 1, 2, 3));

        int pointsOf(List<String> had) {
            int sum = 0;
            for (String kind : kinds) {
                sum += had.contains(kind) ? weigh.getOrDefault(kind, 0) : 0;
            }
            return sum;
        }

        boolean few(String word, List<String> had) {
            return pointsOf(had) < need.getOrDefault(word, 10);
        }

        boolean unmet(String word, List<String> had) {
            List<Demand> all = new ArrayList<>(musts);
            all.addAll(eithers);
            for (Demand demand : all) {
                if (demand.word.equals(word) && Collections.disjoint(demand.anyOf, had)) {
                    return true;
                }
            }
            return false;
        }
    }

    String tape = "";
    int clock, persons, force, sideA = 0, sideB = 1, faultKind, faultPlace = NONE;
    final List<Telling> tellings = new ArrayList<>();
    final List<Rate> rates = new ArrayList<>();
    final List<Thing> things = new ArrayList<>();
    final List<Claim> claims = new ArrayList<>();
    final List<Paper> papers = new ArrayList<>();
    final Version[] versions = {new Version(), new Version(), new Version(), new Version()};
    final boolean[] umpires = new boolean[60];
    final int[] purses = new int[60];
    List<Integer> chosen = List.of();
    int came, coin;

    // ---- the tape

    int feed(int a, int b, int c, int d, int e) {
        if (tape.length() > 580) {
            return FULL;
        }
        StringBuilder more = new StringBuilder(tape);
        for (int four : new int[] {a, b, c, d, e}) {
            more.append((char) (four >>> 24)).append((char) (four >>> 16 & 255));
            more.append((char) (four >>> 8 & 255)).append((char) (four & 255));
        }
        tape = more.toString();
        return tape.length();
    }

    int end(int n) {
        if (n < 0 || n > tape.length()) {
            return NONE;
        }
        tape = tape.substring(0, n);
        return n;
    }

    private String takeWord() {
        String word = tape.replaceAll("^[ \n]+|[ \n]+$", "");
        tape = "";
        return word.matches("[a-z]{1,12}") ? word : null;
    }

    // ---- persons, days

    private boolean person(int p) {
        return p >= 0 && p < persons;
    }

    private static boolean in(int n, int a, int b) {
        return a <= n && n <= b;
    }

    private static boolean day(int n) {
        return in(n, 0, 1999);
    }

    int pass(int n) {
        if (n < 1 || n > 500 || clock + n > 1999) {
            return RANGE;
        }
        return clock += n;
    }

    int person() {
        return persons == 60 ? FULL : persons++;
    }

    private int tell(Telling telling) {
        if (tellings.size() == 200) {
            return FULL;
        }
        tellings.add(telling);
        return tellings.size();
    }

    int nation(int p, int nation, int from) {
        return person(p) && in(nation, 0, 3) && day(from) ? tell(new Telling("nation", p, clock, from, nation)) : RANGE;
    }

    int dead(int p, int from) {
        return person(p) && day(from) ? tell(new Telling("dead", p, clock, from, 0)) : RANGE;
    }

    int heir(int p, int q, int parts) {
        boolean fine = person(p) && person(q) && p != q && in(parts, 1, 99);
        return fine ? tell(new Telling("heir", p, clock, q, parts)) : RANGE;
    }

    private int nationOf(int p, int day, int known) {
        for (int first = day; first >= 0; first--) {
            for (int i = tellings.size() - 1; i >= 0; i--) {
                Telling t = tellings.get(i);
                if (t.what.equals("nation") && t.of == p && t.known <= known && t.from == first) {
                    return t.says;
                }
            }
        }
        return 0;
    }

    private boolean isDead(int p, int day, int known) {
        return tellings.stream().anyMatch(t -> t.what.equals("dead") && t.of == p && t.known <= known && t.from <= day);
    }

    private Map<Integer, Integer> heirs(int p, int known) {
        Map<Integer, Integer> found = new LinkedHashMap<>();
        tellings.stream().filter(t -> t.what.equals("heir") && t.of == p && t.known <= known)
            .forEach(t -> found.put(t.from, t.says));
        return found;
    }

    int nationOn(int p, int day, int known) {
        return person(p) && day(day) && day(known) ? nationOf(p, day, known) : RANGE;
    }

    int deadOn(int p, int day, int known) {
        return person(p) && day(day) && day(known) ? isDead(p, day, known) ? 1 : 0 : RANGE;
    }

    int heirOn(int p, int known, int i, int what) {
        if (!person(p) || !day(known)) {
            return NONE;
        }
        Map<Integer, Integer> found = heirs(p, known);
        if (!in(i, 0, found.size() - 1) || !in(what, 0, 1)) {
            return NONE;
        }
        return new ArrayList<>(what == 0 ? found.keySet() : found.values()).get(i);
    }

    int rate(int currency, int day, int pence) {
        if (!in(currency, 1, 3) || !day(day) || !in(pence, 1, 99999)) {
            return RANGE;
        }
        if (rates.size() == 60) {
            return FULL;
        }
        rates.add(new Rate(currency, day, pence));
        return rates.size();
    }

    int rateOn(int currency, int day) {
        if (!in(currency, 0, 3) || !day(day)) {
            return RANGE;
        }
        for (int d = day; d >= 0; d--) {
            for (int i = rates.size() - 1; i >= 0; i--) {
                if (rates.get(i).currency == currency && rates.get(i).day == d) {
                    return rates.get(i).pence;
                }
            }
        }
        return 100;
    }

    int sides(int a, int b) {
        if (!in(a, 0, 3) || !in(b, 0, 3) || a == b) {
            return RANGE;
        }
        sideA = a;
        sideB = b;
        return 1;
    }

    // ---- rules: each text is tried against a pattern of its clauses, token by token

    private static final Map<String, String> FORMS = new TreeMap<>(Map.ofEntries(
        Map.entry("bar", "0-1999"), Map.entry("days", "0-1999 up-1999"), Map.entry("chain", "loss|filing|both|always"),
        Map.entry("weigh", "NEWWEIGH 1-99"), Map.entry("need", "NEWNEED 0-999"), Map.entry("must", "W KIND"),
        Map.entry("either", "W KIND KIND"), Map.entry("order", "ROLES"), Map.entry("rate", "0-99 loss|filing"),
        Map.entry("split", "least|mean|umpire"), Map.entry("cap", "1-9999"), Map.entry("test", "0-10"),
        Map.entry("late", "0-1999"), Map.entry("part", "1-100")));
    private static final List<String> ROLES = List.of("owner", "cargo", "lender", "insurer");

    private List<String> tokens;
    private List<Integer> places;
    private int at;
    private Version draft;

    private void split(String text) {
        tokens = new ArrayList<>();
        places = new ArrayList<>();
        Matcher m = Pattern.compile("[a-z]+|[0-9]+|[^ \n]", Pattern.DOTALL).matcher(text);
        while (m.find()) {
            tokens.add(m.group());
            places.add(m.start());
        }
        tokens.add("");
        places.add(text.length());
    }

    private static boolean isWord(String token) {
        return token.matches("[a-z]{1,12}");
    }

    int rules(int v) {
        String text = tape;
        tape = "";
        if (!in(v, 0, 3)) {
            return RANGE;
        }
        split(text);
        at = 0;
        draft = new Version();
        List<String> told = new ArrayList<>();
        faultKind = 0;
        faultPlace = NONE;
        while (!tokens.get(at).isEmpty()) {
            faultKind = clause(told);
            if (faultKind != 0) {
                faultPlace = places.get(at);
                return NONE;
            }
        }
        versions[v] = draft;
        return told.size();
    }

    /** The fault's kind, with `at` at its token; 0 without. */
    private int clause(List<String> told) {
        String head = tokens.get(at);
        if (!FORMS.containsKey(head)) {
            return 1;
        }
        boolean many = List.of("weigh", "need", "must", "either").contains(head);
        if (!many && told.contains(head)) {
            return 3;
        }
        if (many && !head.equals("weigh") && Collections.frequency(told, head) == 10) {
            return 4;
        }
        told.add(head);
        int start = at;
        at++;
        for (String slot : FORMS.get(head).split(" ")) {
            int fault = slot.equals("ROLES") ? roles() : slot(slot);
            if (fault != 0) {
                return fault;
            }
        }
        if (!tokens.get(at).equals(";")) {
            return 1;
        }
        take(tokens.subList(start, at));
        at++;
        return 0;
    }

    private int roles() {
        List<String> seen = new ArrayList<>();
        while (ROLES.contains(tokens.get(at))) {
            if (seen.contains(tokens.get(at))) {
                return 3;
            }
            seen.add(tokens.get(at));
            at++;
        }
        return seen.isEmpty() ? 1 : 0;
    }

    private int slot(String slot) {
        String token = tokens.get(at);
        if (Character.isUpperCase(slot.charAt(0))) {
            if (!isWord(token)) {
                return 1;
            }
            if (slot.equals("NEWWEIGH") && draft.weigh.containsKey(token)) {
                return 3;
            }
            if (slot.equals("NEWNEED") && draft.need.containsKey(token)) {
                return 3;
            }
            if ((slot.equals("NEWWEIGH") || slot.equals("KIND")) && !draft.kinds.contains(token)) {
                if (draft.kinds.size() == 16) {
                    return 4;
                }
                draft.kinds.add(token);
            }
        } else if (slot.contains("-")) {
            if (!token.matches("[0-9]{1,4}")) {
                return 1;
            }
            String[] bounds = slot.split("-");
            int least = Integer.parseInt(bounds[0].equals("up") ? tokens.get(at - 1) : bounds[0]);
            if (!in(Integer.parseInt(token), least, Integer.parseInt(bounds[1]))) {
                return 2;
            }
        } else if (!Arrays.asList(slot.split("\\|")).contains(token)) {
            return 1;
        }
        at++;
        return 0;
    }

    private void take(List<String> c) {
        int n = c.get(1).matches("[0-9]+") ? Integer.parseInt(c.get(1)) : 0;
        switch (c.get(0)) {
            case "bar" -> draft.bar = n;
            case "days" -> {
                draft.dayA = n;
                draft.dayB = Integer.parseInt(c.get(2));
            }
            case "chain" -> draft.chain = List.of("loss", "filing", "both", "always").indexOf(c.get(1));
            case "weigh" -> draft.weigh.put(c.get(1), Integer.parseInt(c.get(2)));
            case "need" -> draft.need.put(c.get(1), Integer.parseInt(c.get(2)));
            case "must" -> draft.musts.add(new Demand(c.get(1), List.of(c.get(2))));
            case "either" -> draft.eithers.add(new Demand(c.get(1), List.of(c.get(2), c.get(3))));
            case "order" -> {
                draft.order.clear();
                c.subList(1, c.size()).forEach(role -> draft.order.add(ROLES.indexOf(role)));
                for (int role = 0; role < 4; role++) {
                    if (!draft.order.contains(role)) {
                        draft.order.add(role);
                    }
                }
            }
            case "rate" -> {
                draft.rate = n;
                draft.from = c.get(2).equals("loss") ? 0 : 1;
            }
            case "split" -> draft.split = List.of("least", "mean", "umpire").indexOf(c.get(1));
            case "cap" -> draft.cap = n;
            case "test" -> draft.test = n;
            case "late" -> draft.late = n;
            default -> draft.part = n;
        }
    }

    int fault(int what) {
        return what == 0 ? faultKind : what == 1 ? faultPlace : NONE;
    }

    int force(int v) {
        if (!in(v, 0, 3)) {
            return RANGE;
        }
        int before = force;
        force = v;
        return before;
    }

    int rule(int v, int what) {
        if (!in(v, 0, 3)) {
            return -9;
        }
        Version r = versions[v];
        int[] plain = {r.bar, r.dayA, r.dayB, r.chain, r.rate, r.from, r.split, r.cap, r.test, r.late, r.part,
            r.kinds.size(), r.musts.size(), r.eithers.size()};
        if (in(what, 0, 13)) {
            return plain[what];
        }
        if (in(what, 20, 23)) {
            return r.order.get(what - 20);
        }
        return in(what, 30, 29 + r.kinds.size()) ? r.weigh.getOrDefault(r.kinds.get(what - 30), 0) : -9;
    }

    int need(int v) {
        String word = takeWord();
        return !in(v, 0, 3) ? RANGE : word == null ? NONE : versions[v].need.getOrDefault(word, 10);
    }

    int kind(int v) {
        String word = takeWord();
        return !in(v, 0, 3) ? RANGE : word == null ? NONE : versions[v].kinds.indexOf(word);
    }

    // ---- things, claims, papers

    int thing(int day, int marks, int worth) {
        if (!in(day, 0, clock) || !in(marks, 0, 255) || (worth != NONE && !in(worth, 1, 999999))) {
            return RANGE;
        }
        if (things.size() == 30) {
            return FULL;
        }
        things.add(new Thing(day, marks, worth));
        return things.size() - 1;
    }

    private List<Integer> likeWorths(int t) {
        Thing thing = things.get(t);
        if (thing.worth != NONE) {
            return List.of(thing.worth);
        }
        TreeMap<Integer, List<Integer>> byUnlike = new TreeMap<>();
        for (Thing other : things) {
            if (other.worth != NONE) {
                byUnlike.computeIfAbsent(Integer.bitCount(other.marks ^ thing.marks), k -> new ArrayList<>())
                    .add(other.worth);
            }
        }
        if (byUnlike.isEmpty()) {
            return List.of(0);
        }
        List<Integer> found = byUnlike.firstEntry().getValue();
        Collections.sort(found);
        return found;
    }

    private int worth(int t) {
        List<Integer> likes = likeWorths(t);
        return likes.get((likes.size() - 1) / 2);
    }

    int lost(int t, int what) {
        if (!in(t, 0, things.size() - 1)) {
            return NONE;
        }
        List<Integer> likes = likeWorths(t);
        switch (what) {
            case 0: return things.get(t).day;
            case 1: return things.get(t).marks;
            case 2: return worth(t);
            case 3: return things.get(t).worth == NONE ? 0 : 1;
            case 4: return likes.get(0);
            case 5: return likes.get(likes.size() - 1);
            default: return NONE;
        }
    }

    int claim(int p, int nation, int t, int role, int currency, int sum) {
        String word = takeWord();
        if (!person(p) || !in(nation, 0, 3) || !in(t, 0, things.size() - 1) || !in(role, 0, 3)
            || !in(currency, 0, 3) || !in(sum, 1, 9999999)) {
            return RANGE;
        }
        if (word == null) {
            return NONE;
        }
        if (claims.size() == 60) {
            return FULL;
        }
        Claim c = new Claim();
        c.claimant = p;
        c.nation = nation;
        c.thing = t;
        c.role = role;
        c.amount = times(sum, rateOn(currency, things.get(t).day), 100).min(BigInteger.valueOf(999999)).intValue();
        c.filed = clock;
        c.word = word;
        claims.add(c);
        return claims.size() - 1;
    }

    private static BigInteger times(long a, long b, long over) {
        return BigInteger.valueOf(a).multiply(BigInteger.valueOf(b)).divide(BigInteger.valueOf(over));
    }

    private boolean isClaim(int c) {
        return in(c, 0, claims.size() - 1);
    }

    int mark(int c, int marks) {
        if (!isClaim(c) || !in(marks, 0, 1023)) {
            return RANGE;
        }
        int before = claims.get(c).marks;
        claims.get(c).marks = marks;
        return before;
    }

    int paper(int c, int issuer, int day) {
        String word = takeWord();
        if (!isClaim(c) || (issuer != NONE && !person(issuer)) || !day(day)) {
            return RANGE;
        }
        if (word == null) {
            return NONE;
        }
        if (papers.size() == 150) {
            return FULL;
        }
        papers.add(new Paper(c, word, issuer, day, clock));
        return papers.size() - 1;
    }

    private boolean isForged(Paper k, int known) {
        return k.issuer != NONE && isDead(k.issuer, k.day, known);
    }

    int forged(int k, int known) {
        return in(k, 0, papers.size() - 1) && day(known) ? isForged(papers.get(k), known) ? 1 : 0 : RANGE;
    }

    private List<String> had(int c, int known) {
        List<String> had = new ArrayList<>();
        for (Paper k : papers) {
            if (k.claim == c && k.known <= known && !isForged(k, known)) {
                had.add(k.word);
            }
        }
        return had;
    }

    private int failing(int c, Version r, int known) {
        return failing(c, r, known, had(c, known));
    }

    private int failing(int c, Version r, int known, List<String> had) {
        Claim claim = claims.get(c);
        int loss = things.get(claim.thing).day;
        int bits = claim.filed > r.bar ? 1 : 0;
        bits += loss < r.dayA || loss > r.dayB ? 2 : 0;
        List<Integer> days = new ArrayList<>();
        for (int d = Math.min(loss, claim.filed); d <= Math.max(loss, claim.filed); d++) {
            if (r.chain == 3 || (d == loss && r.chain != 1) || (d == claim.filed && r.chain != 0)) {
                days.add(d);
            }
        }
        bits += days.stream().anyMatch(d -> nationOf(claim.claimant, d, known) != claim.nation) ? 4 : 0;
        bits += r.few(claim.word, had) ? 8 : 0;
        bits += r.unmet(claim.word, had) ? 16 : 0;
        bits += claim.state == 3 ? 32 : 0;
        return bits;
    }

    int fails(int c, int v, int known) {
        return isClaim(c) && in(v, 0, 3) && day(known) ? failing(c, versions[v], known) : RANGE;
    }

    int points(int c, int v, int known) {
        return isClaim(c) && in(v, 0, 3) && day(known) ? versions[v].pointsOf(had(c, known)) : RANGE;
    }

    int lacks(int c, int v, int known) {
        if (!isClaim(c) || !in(v, 0, 3) || !day(known)) {
            return RANGE;
        }
        Version r = versions[v];
        List<String> had = had(c, known);
        int best = NONE;
        for (int set = 0; set < 1 << r.kinds.size(); set++) {
            if (best != NONE && Integer.bitCount(set) >= Integer.bitCount(best)) {
                continue;
            }
            List<String> all = new ArrayList<>(had);
            for (int k = 0; k < r.kinds.size(); k++) {
                if ((set >> k & 1) != 0) {
                    all.add(r.kinds.get(k));
                }
            }
            String word = claims.get(c).word;
            if (!r.few(word, all) && !r.unmet(word, all)) {
                best = set;
            }
        }
        return best;
    }

    int weakest(int c, int v, int known) {
        if (!isClaim(c) || !in(v, 0, 3) || !day(known)) {
            return RANGE;
        }
        Version r = versions[v];
        if (failing(c, r, known) != 0) {
            return NONE;
        }
        for (int k = 0; k < r.kinds.size(); k++) {
            List<String> had = had(c, known);
            had.removeAll(List.of(r.kinds.get(k)));
            if (failing(c, r, known, had) != 0) {
                return k;
            }
        }
        return NONE;
    }

    int beside(int v, int w) {
        if (!in(v, 0, 3) || !in(w, 0, 3)) {
            return RANGE;
        }
        int found = 0;
        for (int c = 0; c < claims.size(); c++) {
            found += failing(c, versions[v], clock) == 0 && failing(c, versions[w], clock) != 0 ? 1 : 0;
        }
        return found;
    }

    int withdraw(int c) {
        if (!isClaim(c)) {
            return RANGE;
        }
        if (claims.get(c).state != 0) {
            return STATE;
        }
        claims.get(c).state = 3;
        return 1;
    }

    int about(int c, int what) {
        if (!isClaim(c) || !in(what, 0, 13)) {
            return -9;
        }
        Claim k = claims.get(c);
        return new int[] {k.claimant, k.nation, k.thing, k.role, k.amount, k.filed, k.marks, k.state, k.sum, k.award,
            k.paid, k.decided, k.state == 1 ? k.voteA : 0, k.state == 1 ? k.voteB : 0}[what];
    }

    // ---- decisions

    private int dueNow(int c) {
        Version r = versions[force];
        int t = claims.get(c).thing;
        int[] has = new int[60];
        int left = worth(t);
        for (int role : r.order) {
            List<Integer> group = new ArrayList<>();
            long asked = 0;
            for (int i = 0; i < claims.size(); i++) {
                Claim k = claims.get(i);
                if (k.thing == t && k.role == role && failing(i, r, clock) == 0) {
                    group.add(i);
                    asked += k.amount;
                }
            }
            int given = 0;
            for (int i : group) {
                int amount = claims.get(i).amount;
                has[i] = asked <= left ? amount : times(left, amount, asked).intValue();
                given += has[i];
            }
            if (asked > left) {
                for (int i = 0; given < left; i++, given++) {
                    has[group.get(i)]++;
                }
            }
            left -= given;
        }
        return has[c];
    }

    int due(int c) {
        return isClaim(c) ? dueNow(c) : RANGE;
    }

    private int awards() {
        return claims.stream().mapToInt(c -> c.award).sum();
    }

    private void decide(int c, int sum) {
        Claim claim = claims.get(c);
        Version r = versions[force];
        int days = clock - (r.from == 0 ? things.get(claim.thing).day : claim.filed);
        int award = sum + times(sum, (long) r.rate * days, 36000).intValue();
        if (r.cap != NONE) {
            award = Math.max(0, Math.min(award, r.cap * 1000 - awards()));
        }
        claim.keptFails = failing(c, r, clock);
        claim.keptDue = dueNow(c);
        claim.state = 2;
        claim.sum = sum;
        claim.award = award;
        claim.decided = clock;
    }

    int vote(int c, int a, int b) {
        if (!isClaim(c)) {
            return RANGE;
        }
        Claim claim = claims.get(c);
        if (claim.state != 0) {
            return STATE;
        }
        if (!in(a, 0, dueNow(c)) || !in(b, 0, dueNow(c))) {
            return RANGE;
        }
        int split = versions[force].split;
        if (a != b && split == 2) {
            claim.state = 1;
            claim.voteA = a;
            claim.voteB = b;
        } else {
            decide(c, a == b ? a : split == 0 ? Math.min(a, b) : (a + b) / 2);
        }
        return claim.state;
    }

    int umpire(int p, boolean is) {
        if (!person(p)) {
            return RANGE;
        }
        boolean was = umpires[p];
        umpires[p] = is;
        return was == is ? 0 : 1;
    }

    private List<Integer> able() {
        List<Integer> able = new ArrayList<>();
        for (int p = 0; p < persons; p++) {
            int nation = nationOf(p, clock, clock);
            if (umpires[p] && !isDead(p, clock, clock) && nation != sideA && nation != sideB) {
                able.add(p);
            }
        }
        return able;
    }

    int lots() {
        return able().size();
    }

    int lot(int c, int number, int sum) {
        if (!isClaim(c)) {
            return RANGE;
        }
        Claim claim = claims.get(c);
        if (claim.state != 1) {
            return STATE;
        }
        List<Integer> able = able();
        boolean between = in(sum, Math.min(claim.voteA, claim.voteB), Math.max(claim.voteA, claim.voteB));
        if (!in(number, 0, able.size() - 1) || !between) {
            return RANGE;
        }
        decide(c, sum);
        return able.get(number);
    }

    private boolean likes(int c, int d) {
        Claim one = claims.get(c);
        Claim other = claims.get(d);
        return one.word.equals(other.word) && Integer.bitCount(one.marks ^ other.marks) <= versions[force].test;
    }

    int like(int c, int d) {
        return isClaim(c) && isClaim(d) && c != d ? likes(c, d) ? 1 : 0 : RANGE;
    }

    int tests(int n) {
        if (!in(n, 1, 3)) {
            return RANGE;
        }
        List<Integer> open = new ArrayList<>();
        for (int c = 0; c < claims.size(); c++) {
            if (claims.get(c).state == 0) {
                open.add(c);
            }
        }
        chosen = List.of();
        int best = 0;
        List<List<Integer>> rows = new ArrayList<>();
        for (int size = 1; size <= n; size++) {
            rowsOf(open, 0, size, new ArrayList<>(), rows);
        }
        for (List<Integer> row : rows) {
            int found = 0;
            for (int d : open) {
                found += row.stream().anyMatch(c -> likes(c, d)) ? 1 : 0;
            }
            if (found > best) {
                best = found;
                chosen = row;
            }
        }
        return best;
    }

    private void rowsOf(List<Integer> open, int from, int size, List<Integer> row, List<List<Integer>> rows) {
        if (row.size() == size) {
            rows.add(List.copyOf(row));
            return;
        }
        for (int i = from; i < open.size(); i++) {
            row.add(open.get(i));
            rowsOf(open, i + 1, size, row, rows);
            row.remove(row.size() - 1);
        }
    }

    int test(int i) {
        return in(i, 0, chosen.size() - 1) ? chosen.get(i) : NONE;
    }

    int spread(int c) {
        if (!isClaim(c)) {
            return RANGE;
        }
        Claim claim = claims.get(c);
        if (claim.state != 2) {
            return STATE;
        }
        int found = 0;
        for (int d = 0; d < claims.size(); d++) {
            if (d != c && claims.get(d).state == 0 && likes(c, d)) {
                int due = dueNow(d);
                decide(d, claim.keptDue == 0 ? 0 : Math.min(due, times(due, claim.sum, claim.keptDue).intValue()));
                found++;
            }
        }
        return found;
    }

    int again(int c) {
        if (!isClaim(c)) {
            return RANGE;
        }
        Claim claim = claims.get(c);
        if (claim.state != 2 || claim.decided + versions[force].late < clock) {
            return STATE;
        }
        if (failing(c, versions[force], clock) == claim.keptFails && dueNow(c) == claim.keptDue) {
            return 0;
        }
        claim.state = 0;
        claim.sum = 0;
        claim.award = 0;
        claim.decided = NONE;
        return 1;
    }

    // ---- the fund

    int fund(int pence) {
        if (!in(pence, 1, 9999999) || came + pence > 999999999) {
            return RANGE;
        }
        coin += pence;
        return came += pence;
    }

    private int payOn(Claim claim, int sum) {
        claim.paid += sum;
        coin -= sum;
        hand(claim.claimant, sum, 3);
        return sum;
    }

    private void hand(int p, int sum, int passings) {
        Map<Integer, Integer> heirs = heirs(p, clock);
        if (!isDead(p, clock, clock) || heirs.isEmpty() || passings == 0) {
            purses[p] += sum;
            return;
        }
        int whole = heirs.values().stream().mapToInt(x -> x).sum();
        Map<Integer, Integer> shares = new LinkedHashMap<>();
        heirs.forEach((heir, parts) -> shares.put(heir, times(sum, parts, whole).intValue()));
        int over = sum - shares.values().stream().mapToInt(x -> x).sum();
        for (int heir : heirs.keySet()) {
            if (over > 0) {
                shares.merge(heir, 1, Integer::sum);
                over--;
            }
        }
        shares.forEach((heir, share) -> hand(heir, share, passings - 1));
    }

    private static boolean pends(Claim c) {
        return c.state == 0 || c.state == 1;
    }

    int wave() {
        long asked = awards() + claims.stream().filter(Model::pends).mapToLong(c -> c.amount).sum();
        int paid = 0;
        for (Claim claim : claims) {
            if (claim.award > 0) {
                long parts = Math.min(versions[force].part * 10L, times(came, 1000, asked).longValue());
                int upTo = times(claim.award, parts, 1000).intValue();
                if (claim.paid < upTo) {
                    paid += payOn(claim, Math.min(coin, upTo - claim.paid));
                }
            }
        }
        return paid;
    }

    int last() {
        if (claims.stream().anyMatch(Model::pends)) {
            return STATE;
        }
        List<Claim> wanting = new ArrayList<>(claims.stream().filter(c -> c.paid < c.award).toList());
        long wanted = wanting.stream().mapToLong(c -> c.award - c.paid).sum();
        int before = coin;
        if (coin >= wanted) {
            wanting.forEach(c -> payOn(c, c.award - c.paid));
            return before - coin;
        }
        List<BigInteger[]> measured = new ArrayList<>();
        List<Integer> byRest = new ArrayList<>();
        int over = coin;
        for (Claim c : wanting) {
            BigInteger[] both = BigInteger.valueOf(coin).multiply(BigInteger.valueOf(c.award - c.paid))
                .divideAndRemainder(BigInteger.valueOf(wanted));
            byRest.add(measured.size());
            measured.add(both);
            over -= both[0].intValue();
        }
        byRest.sort((a, b) -> measured.get(b)[1].compareTo(measured.get(a)[1]));
        List<Integer> more = byRest.subList(0, over);
        for (int i = 0; i < wanting.size(); i++) {
            payOn(wanting.get(i), measured.get(i)[0].intValue() + (more.contains(i) ? 1 : 0));
        }
        return before - coin;
    }

    int purse(int p) {
        return person(p) ? purses[p] : RANGE;
    }

    int count(int what) {
        if (in(what, 20, 23)) {
            return (int) claims.stream().filter(c -> c.state == what - 20).count();
        }
        int[] all = {clock, persons, tellings.size(), things.size(), claims.size(), papers.size(), came, coin, awards(),
            force, tape.length()};
        return in(what, 0, 10) ? all[what] : NONE;
    }
}
