/** Helps the tests: feeds texts, compares answers, ends with exit code 1 if one was wrong. */
final class Due {
    private static int wrong = 0;
    private static int asked = 0;

    private Due() {
    }

    static void is(String call, int got, int want) {
        asked++;
        if (got != want) {
            wrong++;
            System.out.println(call + " answered " + got + ", due is " + want);
        }
    }

    static void holds(String claim, boolean so) {
        is(claim, so ? 1 : 0, 1);
    }

    /** Puts a text on an empty tape. */
    static void tell(MusicChairs x, String text) {
        x.end(0);
        for (int at = 0; at < text.length(); at += 20) {
            x.feed(word(text, at), word(text, at + 4), word(text, at + 8), word(text, at + 12), word(text, at + 16));
        }
        is("end", x.end(text.length()), text.length());
    }

    static int word(String text, int at) {
        int all = 0;
        for (int k = at; k < at + 4; k++) {
            all = all << 8 | (k < text.length() ? text.charAt(k) & 255 : 0);
        }
        return all;
    }

    static int party(MusicChairs x, String text) {
        tell(x, text);
        return x.party();
    }

    static int rule(MusicChairs x, String text) {
        tell(x, text);
        return x.rule();
    }

    static MusicChairs at(String party) {
        MusicChairs x = new MusicChairs();
        holds("party " + party, party(x, party) >= 0);
        return x;
    }

    static MusicChairs by(String party, String rule) {
        MusicChairs x = at(party);
        is("rule " + rule, rule(x, rule), 0);
        is("force(0)", x.force(0), -1);
        return x;
    }

    /** The answer of a text with a fault of this sort at this place. */
    static int fault(int place, int sort) {
        return -2 - (1 + 8 * place + sort);
    }

    static void end(String name) {
        System.out.println(name + ": " + asked + " answers, " + wrong + " wrong");
        if (wrong != 0) {
            System.exit(1);
        }
    }
}
