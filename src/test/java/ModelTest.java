import java.util.Random;
import java.util.TreeMap;

/** Random runs of 512 calls at most, each answer beside that of the plain model; all promises. */
public final class ModelTest {
    private static final String[] WORDS = {"ship", "house", "deed", "oath", "bill", "seal", "log", "a", "bar", "loss"};
    private static final String[] ROLES = {"owner", "cargo", "lender", "insurer"};
    private static final int RUNS = 1200;
    private static final int CALLS = 512;
    private static final int OPS = 46;

    private final Checks checks;
    private final TreeMap<String, Integer> answered;
    private final int run;
    private final Random random;
    private final TreatyClaims x = new TreatyClaims();
    private final Model m = new Model();
    /** Each run has calls of its own that it likes, so that some runs fill a room or go deep. */
    private final int[] weights = new int[OPS];
    private int whole;
    private final int span;
    private final int kindsOfWords;
    private int calls;

    private ModelTest(Checks checks, TreeMap<String, Integer> answered, int run) {
        this.checks = checks;
        this.answered = answered;
        this.run = run;
        this.random = new Random(run);
        this.span = 1 + random.nextInt(run % 3 == 0 ? 1990 : 40);
        this.kindsOfWords = 1 + random.nextInt(3);
        for (int i = 0; i < OPS; i++) {
            weights[i] = 1 + random.nextInt(3) + (random.nextInt(12) == 0 ? 12 : 0);
            whole += weights[i];
        }
    }

    public static void main(String[] args) {
        Checks checks = new Checks();
        TreeMap<String, Integer> answered = new TreeMap<>();
        int runs = args.length > 0 ? Integer.parseInt(args[0]) : RUNS;
        for (int run = 0; run < runs && checks.wrongs() < 20; run++) {
            new ModelTest(checks, answered, run).play();
        }
        if (args.length > 1) {
            answered.forEach((what, many) -> System.out.println(what + " " + many));
        }
        checks.close("ModelTest");
    }

    private void look(String call, int got, int want) {
        calls++;
        checks.due("run " + run + ", call " + calls + ": " + call, got, want);
        String sort = want < 0 ? Integer.toString(want) : want == 0 ? "0" : "more";
        answered.merge(call.substring(0, call.indexOf('(')) + " " + sort, 1, Integer::sum);
    }

    private void play() {
        int persons = 2 + random.nextInt(9);
        for (int i = 0; i < persons; i++) {
            look("person()", x.person(), m.person());
        }
        if (run % 8 != 0) {
            begin();
        }
        while (calls < CALLS - 40 && checks.wrongs() < 20) {
            int at = random.nextInt(whole);
            int op = 0;
            while (at >= weights[op]) {
                at -= weights[op];
                op++;
            }
            call(op);
        }
        for (int p = 0; p < Math.min(m.persons, 30); p++) {
            look("purse()", x.purse(p), m.purse(p));
        }
    }

    /** Rules that many meet, some things, claims and papers, so that there is something to decide and pay. */
    private void begin() {
        tellRules(m.force, tameText());
        tellRules(1, tameText());
        for (int i = 2 + random.nextInt(4); i > 0; i--) {
            callThings(18);
        }
        for (int i = 4 + random.nextInt(14); i > 0; i--) {
            file();
        }
        for (int i = 2 + random.nextInt(20); i > 0; i--) {
            callThings(23);
        }
    }

    private void tellRules(int v, String text) {
        write(text);
        look("rules(" + v + ") of '" + text + "'", x.rules(v), m.rules(v));
        look("fault(0) of '" + text + "'", x.fault(0), m.fault(0));
        look("fault(1) of '" + text + "'", x.fault(1), m.fault(1));
    }

    private String tameText() {
        StringBuilder text = new StringBuilder();
        for (int i = 2; i < WORDS.length; i++) {
            if (random.nextInt(3) != 0) {
                text.append("weigh ").append(WORDS[i]).append(' ').append(1 + random.nextInt(9)).append(";");
            }
        }
        for (int i = 0; i < 3; i++) {
            if (random.nextInt(6) != 0) {
                int need = random.nextInt(3) == 0 ? 0 : random.nextInt(9);
                text.append("need ").append(WORDS[i]).append(' ').append(need).append(";");
            }
        }
        if (random.nextInt(4) == 0) {
            text.append("either ").append(cause()).append(" deed oath;");
        }
        if (random.nextInt(6) == 0) {
            text.append("must ").append(cause()).append(" bill;");
        }
        for (String kind : new String[] {"chain", "order", "rate", "split", "cap", "test", "late", "part"}) {
            if (random.nextBoolean()) {
                text.append(clause(kind)).append(";");
            }
        }
        return text.toString();
    }

    private boolean wild() {
        return random.nextInt(40) == 0;
    }

    /** Mostly 0 .. below, at times beside it. */
    private int number(int below) {
        return wild() ? random.nextInt(below + 4) - 2 : random.nextInt(Math.max(1, below));
    }

    private int day() {
        if (wild()) {
            return random.nextBoolean() ? -1 : 1998 + random.nextInt(4);
        }
        return random.nextInt(Math.min(2000, m.clock + span + 1));
    }

    private int known() {
        return random.nextInt(3) == 0 ? day() : m.clock;
    }

    private int person() {
        return number(m.persons);
    }

    private int claim() {
        return number(m.claims.size());
    }

    private int version() {
        return number(4);
    }

    private String word() {
        if (wild()) {
            return new String[] {"", "two words", "A", "verylongwordsx", "twelveletter", " b \n", "x;", "7"}[random.nextInt(8)];
        }
        return WORDS[2 + random.nextInt(WORDS.length - 2)];
    }

    private String cause() {
        return wild() ? word() : WORDS[random.nextInt(kindsOfWords)];
    }

    private void write(String text) {
        for (int at = 0; at < text.length() && calls < CALLS - 20; at += 20) {
            int[] five = new int[5];
            for (int i = 0; i < 20; i++) {
                five[i / 4] = five[i / 4] << 8 | (at + i < text.length() ? text.charAt(at + i) : random.nextInt(256));
            }
            look("feed()", x.feed(five[0], five[1], five[2], five[3], five[4]),
                m.feed(five[0], five[1], five[2], five[3], five[4]));
        }
        int end = wild() ? number(620) : text.length();
        look("end(" + end + ")", x.end(end), m.end(end));
    }

    private String blank() {
        return new String[] {" ", "  ", "\n", " \n "}[random.nextInt(8) == 0 ? random.nextInt(4) : 0];
    }

    private String text() {
        StringBuilder text = new StringBuilder();
        int clauses = random.nextInt(10) + (random.nextInt(6) == 0 ? 20 : 0);
        String only = random.nextInt(8) == 0 ? new String[] {"must", "either", "need", "weigh"}[random.nextInt(4)] : null;
        for (int i = 0; i < clauses && text.length() < 560; i++) {
            for (String token : clause(only).split(" ")) {
                text.append(text.length() == 0 || random.nextInt(30) == 0 ? "" : blank()).append(token);
            }
            text.append(random.nextInt(4) == 0 ? blank() : "").append(";");
        }
        if (random.nextInt(5) == 0 && text.length() > 0) {
            int at = random.nextInt(text.length());
            String into = new String[] {"", ";", "x", "9", " ", "\u0000", "\u00ff", "bar"}[random.nextInt(8)];
            text.replace(at, Math.min(text.length(), at + random.nextInt(3)), into);
        }
        text.setLength(Math.min(text.length(), 600));
        return text.toString();
    }

    private int bound(int least, int most) {
        if (random.nextInt(60) == 0) {
            return random.nextBoolean() ? Math.max(0, least - 1) : most + 1;
        }
        return least + random.nextInt(most - least + 1);
    }

    private String fresh() {
        return random.nextInt(2) == 0 ? word() : "k" + (char) ('a' + random.nextInt(24));
    }

    private String clause(String only) {
        String kind = only != null && random.nextInt(8) != 0 ? only : new String[] {"bar", "days", "chain", "weigh", "weigh",
            "weigh", "need", "need", "must", "either", "order", "rate", "split", "cap", "test", "late", "part"}
            [random.nextInt(17)];
        switch (kind) {
            case "bar": return "bar " + bound(m.clock / 2, Math.min(1999, m.clock * 2 + 1));
            case "days": return "days " + bound(0, Math.max(1, m.clock / 3)) + " " + bound(m.clock / 4, 1999);
            case "chain": return "chain " + new String[] {"loss", "filing", "both", "always", "never"}
                [random.nextInt(random.nextInt(20) == 0 ? 5 : 4)];
            case "weigh": return "weigh " + fresh() + " " + bound(1, random.nextInt(3) == 0 ? 99 : 9);
            case "need": return "need " + (random.nextInt(3) == 0 ? fresh() : cause()) + " "
                + bound(0, random.nextInt(4) == 0 ? 300 : 12);
            case "must": return "must " + cause() + " " + (only == null ? word() : fresh());
            case "either": return "either " + cause() + " " + fresh() + " " + fresh();
            case "order": {
                StringBuilder order = new StringBuilder("order");
                for (int i = random.nextInt(4); i >= 0; i--) {
                    order.append(" ").append(ROLES[(i * 3 + (random.nextInt(20) == 0 ? 1 : 0) + run) & 3]);
                }
                return order.toString();
            }
            case "rate": return "rate " + bound(0, 99) + (random.nextBoolean() ? " loss" : " filing");
            case "split": return "split " + new String[] {"least", "mean", "umpire"}[random.nextInt(3)];
            case "cap": return "cap " + bound(1, random.nextBoolean() ? 9999 : 9);
            case "test": return "test " + bound(0, random.nextBoolean() ? 10 : 3);
            case "late": return "late " + bound(0, random.nextBoolean() ? 1999 : 60);
            default: return "part " + bound(1, 100);
        }
    }

    private void call(int op) {
        if (op < 12) {
            callPersons(op);
        } else if (op < 18) {
            callRules(op);
        } else if (op < 31) {
            callThings(op);
        } else {
            callDecisions(op);
        }
    }

    private void callPersons(int op) {
        int p = person();
        int q = person();
        int day = day();
        int known = known();
        int n = number(4);
        switch (op) {
            case 0: {
                int days = wild() ? random.nextInt(600) - 20 : 1 + random.nextInt(1 + span / 10);
                look("pass(" + days + ")", x.pass(days), m.pass(days));
                break;
            }
            case 1:
                if (weights[1] > 3 || random.nextInt(5) == 0) {
                    look("person()", x.person(), m.person());
                }
                break;
            case 2:
                look("nation(" + p + ", " + n + ", " + day + ")", x.nation(p, n, day), m.nation(p, n, day));
                break;
            case 3:
                if (random.nextInt(3) == 0) {
                    look("dead(" + p + ", " + day + ")", x.dead(p, day), m.dead(p, day));
                }
                break;
            case 4: {
                int parts = wild() ? random.nextInt(104) - 2 : 1 + random.nextInt(5);
                look("heir(" + p + ", " + q + ", " + parts + ")", x.heir(p, q, parts), m.heir(p, q, parts));
                break;
            }
            case 5:
                look("nationOn(" + p + ", " + day + ", " + known + ")", x.nationOn(p, day, known), m.nationOn(p, day, known));
                break;
            case 6:
                look("deadOn(" + p + ", " + day + ", " + known + ")", x.deadOn(p, day, known), m.deadOn(p, day, known));
                break;
            case 7: {
                int what = number(2);
                look("heirOn(" + p + ", " + known + ", " + n + ", " + what + ")", x.heirOn(p, known, n, what),
                    m.heirOn(p, known, n, what));
                break;
            }
            case 8: {
                int pence = wild() ? random.nextInt(100010) - 5 : 1 + random.nextInt(random.nextInt(5) == 0 ? 99999 : 300);
                look("rate(" + n + ", " + day + ", " + pence + ")", x.rate(n, day, pence), m.rate(n, day, pence));
                break;
            }
            case 9:
                look("rateOn(" + n + ", " + day + ")", x.rateOn(n, day), m.rateOn(n, day));
                break;
            case 10: {
                int other = number(4);
                look("sides(" + n + ", " + other + ")", x.sides(n, other), m.sides(n, other));
                break;
            }
            default: {
                int what = random.nextInt(3) == 0 ? number(30) : number(11);
                look("count(" + what + ")", x.count(what), m.count(what));
            }
        }
    }

    private void callRules(int op) {
        int v = version();
        switch (op) {
            case 12:
                if (random.nextInt(3) == 0) {
                    tellRules(v, random.nextBoolean() ? text() : tameText());
                }
                break;
            case 13: {
                int what = number(3);
                look("fault(" + what + ")", x.fault(what), m.fault(what));
                break;
            }
            case 14:
                look("force(" + v + ")", x.force(v), m.force(v));
                break;
            case 15: {
                int what = random.nextInt(50) - 2;
                look("rule(" + v + ", " + what + ")", x.rule(v, what), m.rule(v, what));
                break;
            }
            case 16:
                write(cause());
                look("need(" + v + ")", x.need(v), m.need(v));
                break;
            default:
                write(word());
                look("kind(" + v + ")", x.kind(v), m.kind(v));
        }
    }

    private void callThings(int op) {
        int c = claim();
        int v = random.nextInt(3) == 0 ? version() : m.force;
        int known = known();
        String three = c + ", " + v + ", " + known + ")";
        switch (op) {
            case 18: {
                int day = wild() ? day() : random.nextInt(m.clock + 1);
                int marks = wild() ? number(256) : random.nextInt(8);
                int worth = random.nextInt(3) == 0 ? -1 : wild() ? number(1000000) : 1 + random.nextInt(3000);
                look("thing(" + day + ", " + marks + ", " + worth + ")", x.thing(day, marks, worth),
                    m.thing(day, marks, worth));
                break;
            }
            case 19: {
                int t = number(m.things.size());
                int what = number(6);
                look("lost(" + t + ", " + what + ")", x.lost(t, what), m.lost(t, what));
                break;
            }
            case 20:
            case 21:
                file();
                break;
            case 22: {
                int marks = wild() ? number(1024) : random.nextInt(32);
                look("mark(" + c + ", " + marks + ")", x.mark(c, marks), m.mark(c, marks));
                break;
            }
            case 23:
            case 24: {
                int issuer = random.nextInt(3) == 0 ? -1 : person();
                int day = day();
                write(word());
                look("paper(" + c + ", " + issuer + ", " + day + ")", x.paper(c, issuer, day), m.paper(c, issuer, day));
                break;
            }
            case 25: {
                int k = number(m.papers.size());
                look("forged(" + k + ", " + known + ")", x.forged(k, known), m.forged(k, known));
                break;
            }
            case 26:
                look("fails(" + three, x.fails(c, v, known), m.fails(c, v, known));
                break;
            case 27:
                look("points(" + three, x.points(c, v, known), m.points(c, v, known));
                break;
            case 28:
                look("lacks(" + three, x.lacks(c, v, known), m.lacks(c, v, known));
                break;
            case 29:
                look("weakest(" + three, x.weakest(c, v, known), m.weakest(c, v, known));
                break;
            default: {
                int w = version();
                look("beside(" + v + ", " + w + ")", x.beside(v, w), m.beside(v, w));
            }
        }
    }

    private void file() {
        int p = person();
        int nation = random.nextInt(4) == 0 ? number(4) : m.persons == 0 ? 0 : m.nationOn(Math.max(0, Math.min(p, m.persons - 1)), m.clock, m.clock);
        int t = number(Math.min(m.things.size(), 6));
        int role = number(4);
        int currency = random.nextInt(3) == 0 ? number(4) : 0;
        int sum = wild() ? random.nextInt(10000100) - 50 : 1 + random.nextInt(2000);
        write(cause());
        look("claim(" + p + ", " + nation + ", " + t + ", " + role + ", " + currency + ", " + sum + ")",
            x.claim(p, nation, t, role, currency, sum), m.claim(p, nation, t, role, currency, sum));
    }

    private void callDecisions(int op) {
        int c = claim();
        int d = claim();
        switch (op) {
            case 31:
                if (random.nextInt(4) == 0) {
                    look("withdraw(" + c + ")", x.withdraw(c), m.withdraw(c));
                }
                break;
            case 32: {
                int what = number(14);
                look("about(" + c + ", " + what + ")", x.about(c, what), m.about(c, what));
                break;
            }
            case 33:
                look("due(" + c + ")", x.due(c), m.due(c));
                break;
            case 34:
                vote(c);
                break;
            case 35: {
                int p = person();
                boolean is = random.nextInt(3) != 0;
                look("umpire(" + p + ", " + is + ")", x.umpire(p, is), m.umpire(p, is));
                look("lots()", x.lots(), m.lots());
                break;
            }
            case 36:
                draw();
                break;
            case 37:
                look("like(" + c + ", " + d + ")", x.like(c, d), m.like(c, d));
                break;
            case 38: {
                int n = random.nextInt(8) == 0 ? number(5) : 1 + random.nextInt(3);
                look("tests(" + n + ")", x.tests(n), m.tests(n));
                for (int i = 0; i < 4; i++) {
                    look("test(" + i + ")", x.test(i), m.test(i));
                }
                break;
            }
            case 39:
                look("spread(" + c + ")", x.spread(c), m.spread(c));
                for (int i = 0; i < m.claims.size() && i < 8; i++) {
                    look("about(" + i + ", 9)", x.about(i, 9), m.about(i, 9));
                }
                break;
            case 40:
                look("again(" + c + ")", x.again(c), m.again(c));
                break;
            default:
                callFund(op);
        }
    }

    private void vote(int c) {
        int due = Math.max(0, m.due(c));
        int a = number(due + 1);
        int b = random.nextInt(3) == 0 ? a : number(due + 1);
        look("vote(" + c + ", " + a + ", " + b + ")", x.vote(c, a, b), m.vote(c, a, b));
        int what = 7 + random.nextInt(7);
        look("about(" + c + ", " + what + ")", x.about(c, what), m.about(c, what));
    }

    private void draw() {
        int c = claim();
        for (int i = 0; i < m.claims.size() && !wild(); i++) {
            if (m.about(i, 7) == 1) {
                c = i;
            }
        }
        int lesser = Math.min(m.about(c, 12), m.about(c, 13));
        int greater = Math.max(m.about(c, 12), m.about(c, 13));
        int sum = lesser + number(greater - lesser + 1);
        int number = number(m.lots());
        look("lot(" + c + ", " + number + ", " + sum + ")", x.lot(c, number, sum), m.lot(c, number, sum));
    }

    private void callFund(int op) {
        switch (op) {
            case 41: {
                int pence = wild() ? random.nextInt(10000100) - 50 : 1 + random.nextInt(2000);
                look("fund(" + pence + ")", x.fund(pence), m.fund(pence));
                break;
            }
            case 42:
                look("wave()", x.wave(), m.wave());
                look("count(7)", x.count(7), m.count(7));
                break;
            case 43:
                if (random.nextInt(6) == 0) {
                    settleAll();
                }
                look("last()", x.last(), m.last());
                break;
            case 44: {
                int p = person();
                look("purse(" + p + ")", x.purse(p), m.purse(p));
                break;
            }
            default: {
                int c = claim();
                look("about(" + c + ", 10)", x.about(c, 10), m.about(c, 10));
            }
        }
    }

    /** So that a last payment can be at all. */
    private void settleAll() {
        for (int c = 0; c < m.claims.size() && calls < CALLS - 60; c++) {
            if (m.about(c, 7) == 0) {
                vote(c);
            }
            if (m.about(c, 7) == 1 && m.lots() > 0) {
                int sum = m.about(c, 12);
                look("lot(" + c + ", 0, " + sum + ")", x.lot(c, 0, sum), m.lot(c, 0, sum));
            }
        }
    }
}
