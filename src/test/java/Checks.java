/** What the tests share: they tell each answer that isn't as due, and end with exit code 1 if there was one. */
final class Checks {
    private int wrong;
    private int looked;

    void due(String call, long got, long want) {
        looked++;
        if (got != want) {
            wrong++;
            System.out.println(call + " answered " + got + ", due is " + want);
        }
    }

    void holds(String what, boolean held) {
        due(what, held ? 1 : 0, 1);
    }

    int wrongs() {
        return wrong;
    }

    /** Writes a text behind the tape's bytes; the tape's new length, or what feed() refused with. */
    static int write(TreatyClaims x, String text) {
        int end = x.count(10) + text.length();
        for (int at = 0; at < text.length(); at += 20) {
            int fed = x.feed(four(text, at), four(text, at + 4), four(text, at + 8), four(text, at + 12),
                four(text, at + 16));
            if (fed < 0) {
                return fed;
            }
        }
        return x.end(end);
    }

    /** Writes a text on an empty tape, in as few calls as can be. */
    static void put(TreatyClaims x, String text) {
        for (int at = 0; at < text.length(); at += 20) {
            x.feed(four(text, at), four(text, at + 4), four(text, at + 8), four(text, at + 12), four(text, at + 16));
        }
        x.end(text.length());
    }

    private static int four(String text, int at) {
        int four = 0;
        for (int i = at; i < at + 4; i++) {
            four = four << 8 | (i < text.length() ? text.charAt(i) & 255 : 0);
        }
        return four;
    }

    static int rules(TreatyClaims x, int v, String text) {
        write(x, text);
        return x.rules(v);
    }

    /** Tells a text and then looks at its fault. */
    void fault(String text, int kind, int place) {
        TreatyClaims x = new TreatyClaims();
        due("rules of '" + text + "'", rules(x, 0, text), TreatyClaims.NONE);
        due("fault(0) of '" + text + "'", x.fault(0), kind);
        due("fault(1) of '" + text + "'", x.fault(1), place);
        due("tape behind '" + text + "'", x.count(10), 0);
    }

    static int need(TreatyClaims x, int v, String word) {
        write(x, word);
        return x.need(v);
    }

    static int kind(TreatyClaims x, int v, String word) {
        write(x, word);
        return x.kind(v);
    }

    /** A claim as of nation 0, of currency 0. */
    static int claim(TreatyClaims x, int p, int t, int role, int sum, String word) {
        write(x, word);
        return x.claim(p, 0, t, role, 0, sum);
    }

    static int paper(TreatyClaims x, int c, int issuer, int day, String word) {
        write(x, word);
        return x.paper(c, issuer, day);
    }

    /** Lets days pass until it is one. */
    static void passTo(TreatyClaims x, int day) {
        for (int left = day - x.count(0); left > 0; left -= 500) {
            x.pass(Math.min(left, 500));
        }
    }

    static TreatyClaims withPersons(int many) {
        TreatyClaims x = new TreatyClaims();
        for (int i = 0; i < many; i++) {
            x.person();
        }
        return x;
    }

    void close(String test) {
        System.out.println(test + ": " + looked + " answers, " + wrong + " not as due");
        if (wrong != 0) {
            System.exit(1);
        }
    }
}
