import java.util.Arrays;
import java.util.Random;

/** Random runs of calls, each answered by the class and by the plain model of the document. */
public final class ModelTest {
    private static final String[] CALLS = {
        "feed 5", "end 1", "party 0", "rule 0", "force 1", "chair 2", "guest 2", "time 2", "round 0", "play 1",
        "swap 2", "pace 2", "bring 1", "undo 0", "ahead 3", "winner 1", "gone 1", "safe 2", "row 3", "within 1",
        "kind 1", "longest 0", "meet 2", "tour 0", "away 3", "begin 3", "steps 1", "quicks 1", "rests 4", "pence 2",
        "note 3", "ruled 1", "look 2", "seed 1", "tunes 3", "count 1", "image 1", "back 1"};
    private static final String[] ACTS = {"round 0", "play 1", "swap 2", "pace 2", "bring 1", "bring 1", "undo 0"};
    private static final String[] WORDS = {
        "places", "round", "guests", "chairs", "last", "beats", "fast", "slow", "near", "tired"};
    private static final String SIGNS = ";;[]<>=+-*/%0123456789 notifandorplychegust!A\u0000\u00e9";

    private final Random random;
    private MusicChairs real;
    private Model model;
    private final StringBuilder log = new StringBuilder();
    private static int calls = 0;

    private ModelTest(long seed) {
        // seeds side by side begin alike
        random = new Random(seed * 0x9E3779B97F4A7C15L);
    }

    public static void main(String[] args) throws Exception {
        int runs = args.length > 0 ? Integer.parseInt(args[0]) : 1200;
        long from = args.length > 1 ? Long.parseLong(args[1]) : 1;
        for (long seed = from; seed < from + runs; seed++) {
            if (!new ModelTest(seed).run()) {
                System.exit(1);
            }
        }
        System.out.println("ModelTest: " + runs + " runs, " + calls + " calls alike");
    }

    private boolean run() {
        real = new MusicChairs();
        model = new Model();
        // what calls behind the 512th answer is free: a text takes 23 at most, the counts at the end 15
        int most = 1 + random.nextInt(512 - 22 - 15);
        int ask = random.nextInt(5);
        for (int used = 0; used < most; ) {
            int kind = random.nextInt(100);
            if (used == 0 || kind < 2) {
                used += text("party", mutated(party()));
            } else if (kind < 6) {
                used += text("rule", mutated(rule()));
            } else {
                String[] from = kind < 6 + 15 * ask ? ACTS : CALLS;
                String[] parts = from[random.nextInt(from.length)].split(" ");
                if (!call(parts[0], arguments(parts[0], Integer.parseInt(parts[1])))) {
                    return false;
                }
                used++;
            }
            if (log.indexOf("WRONG") >= 0) {
                return false;
            }
        }
        for (int what = 0; what <= 14; what++) {
            if (!call("count", new int[] {what})) {
                return false;
            }
        }
        return true;
    }

    private int text(String end, String text) {
        int used = 0;
        call("end", new int[] {0});
        for (int at = 0; at < text.length(); at += 20) {
            int[] five = new int[5];
            for (int k = 0; k < 5; k++) {
                five[k] = Due.word(text, at + 4 * k);
            }
            call("feed", five);
            used++;
        }
        call("end", new int[] {text.length()});
        call(end, new int[0]);
        return used + 3;
    }

    private boolean call(String name, int[] a) {
        int want = model.call(name, a);
        int got = answer(name, a);
        calls++;
        log.append(name).append(Arrays.toString(a)).append(" = ").append(got).append('\n');
        if (got != want) {
            log.append("WRONG, due is ").append(want);
            System.out.println(log);
            return false;
        }
        return true;
    }

    private int answer(String name, int[] a) {
        switch (name) {
            case "feed": return real.feed(a[0], a[1], a[2], a[3], a[4]);
            case "end": return real.end(a[0]);
            case "party": return real.party();
            case "rule": return real.rule();
            case "force": return real.force(a[0]);
            case "chair": return real.chair(a[0], a[1]);
            case "guest": return real.guest(a[0], a[1]);
            case "time": return real.time(a[0], a[1]);
            case "round": return real.round();
            case "play": return real.play(a[0]);
            case "swap": return real.swap(a[0], a[1]);
            case "pace": return real.pace(a[0], a[1]);
            case "bring": return real.bring(a[0]);
            case "undo": return real.undo();
            case "ahead": return real.ahead(a[0], a[1], a[2]);
            case "winner": return real.winner(a[0]);
            case "gone": return real.gone(a[0]);
            case "safe": return real.safe(a[0], a[1]);
            case "row": return real.row(a[0], a[1], a[2]);
            case "within": return real.within(a[0]);
            case "kind": return real.kind(a[0]);
            case "longest": return real.longest();
            case "meet": return real.meet(a[0], a[1]);
            case "tour": return real.tour();
            case "away": return real.away(a[0], a[1], a[2]);
            case "begin": return real.begin(a[0], a[1], a[2]);
            case "steps": return real.steps(a[0]);
            case "quicks": return real.quicks(a[0]);
            case "rests": return real.rests(a[0], a[1], a[2], a[3]);
            case "pence": return real.pence(a[0], a[1]);
            case "note": return real.note(a[0], a[1], a[2]);
            case "ruled": return real.ruled(a[0]);
            case "look": return real.look(a[0], a[1]);
            case "seed": return real.seed(a[0]);
            case "tunes": return real.tunes(a[0], a[1], a[2]);
            case "count": return real.count(a[0]);
            case "image": return real.image(a[0]);
            default: return real.back(a[0]);
        }
    }

    private int[] arguments(String name, int many) {
        int[] a = new int[many];
        for (int k = 0; k < many; k++) {
            a[k] = random.nextInt(80) == 0 ? random.nextInt() : argument(name, k);
        }
        return a;
    }

    /** Mostly within what the document takes, at times just beyond. */
    private int argument(String name, int k) {
        switch (name) {
            case "feed": return Due.word(rule() + party(), 4 * k);
            case "end": return random.nextInt(410) - 4;
            case "play": return random.nextInt(62);
            case "pace": return k == 0 ? guest() : random.nextInt(8) - 1;
            case "ahead": return k == 0 ? guest() : k == 1 ? random.nextInt(random.nextBoolean() ? 8 : 43) - 1 : what(3);
            case "row": return k == 0 ? guest() : k == 1 ? random.nextInt(6) : random.nextInt(7) - 1;
            case "within": return random.nextInt(random.nextBoolean() ? 40 : 1010) - 4;
            case "away": case "begin": case "rests":
                return k == (name.equals("rests") ? 2 : 1) ? random.nextInt(random.nextBoolean() ? 8 : 23)
                    : k == many(name) - 1 ? what(3) : guest();
            case "pence": return k == 0 ? random.nextInt(10010) - 4 : guest();
            case "note": return k == 0 ? random.nextInt(random.nextInt(3) > 0 ? 6 : 22) - 1 : k == 1 ? guest() : what(2);
            case "look": return k == 0 ? random.nextInt(random.nextBoolean() ? 7 : 24) - 1 : what(2);
            case "seed": return random.nextInt();
            case "tunes": return k == 0 ? random.nextInt(22) : k == 1 ? random.nextInt(62) : guest();
            case "count": return random.nextInt(17) - 1;
            case "image": case "back": return random.nextInt(6) - 1;
            case "guest": case "safe": return k == 0 ? guest() : what(name.equals("guest") ? 6 : 2);
            case "winner": case "ruled": return what(2);
            default: return guest();
        }
    }

    private static int many(String name) {
        return name.equals("rests") ? 4 : 3;
    }

    private int guest() {
        return random.nextInt(random.nextInt(4) == 0 ? 9 : 5) - (random.nextInt(6) == 0 ? 1 : 0);
    }

    private int what(int many) {
        return random.nextInt(8) == 0 ? random.nextInt(many + 2) - 1 : random.nextInt(many);
    }

    private String blanks() {
        return random.nextInt(12) == 0 ? "  ".substring(random.nextInt(2)) : "";
    }

    private String number(int n) {
        return " " + blanks() + (random.nextInt(15) == 0 ? "0" : "") + n + blanks();
    }

    private String party() {
        int places = 4 + random.nextInt(21);
        StringBuilder all = new StringBuilder(blanks()).append("party").append(number(places));
        int chairs = random.nextInt(random.nextInt(20) == 0 ? 9 : 7);
        int guests = random.nextInt(random.nextInt(20) == 0 ? 10 : 8);
        boolean[] taken = new boolean[places];
        while (chairs + guests > 0) {
            if (random.nextInt(chairs + guests) < chairs) {
                chairs--;
                int place = random.nextInt(places);
                if (taken[place] && random.nextInt(20) > 0) {
                    continue;
                }
                taken[place] = true;
                all.append(';').append(blanks()).append("chair").append(number(place));
            } else {
                guests--;
                all.append(';').append(blanks()).append("guest").append(number(random.nextInt(places)))
                    .append(number(random.nextInt(6))).append(number(1 + random.nextInt(9)));
            }
        }
        return all.length() > 400 ? all.substring(0, 400) : all.toString();
    }

    private String rule() {
        int big = random.nextInt(10);
        if (big == 0) {
            return limit();
        }
        StringBuilder all = new StringBuilder(blanks());
        int clauses = 1 + random.nextInt(random.nextInt(15) == 0 ? 13 : 4);
        for (int k = 0; k < clauses; k++) {
            all.append(k == 0 ? "" : ";" + blanks()).append("play ").append(sum());
            if (random.nextInt(3) > 0) {
                all.append(" if ").append(test(0));
            }
        }
        return all.length() > 400 ? all.substring(0, 400) : all.toString();
    }

    /** Texts about the limits of depth, of clauses, of values and facts. */
    private String limit() {
        StringBuilder all = new StringBuilder("play 3");
        int kind = random.nextInt(3);
        if (kind == 0) {
            all.append(" if ");
            int deep = 8 + random.nextInt(4);
            int open = 0;
            for (int k = 0; k < deep; k++) {
                boolean bracket = random.nextBoolean();
                all.append(bracket ? "[" : "not ");
                open += bracket ? 1 : 0;
            }
            all.append("round>1").append("]".repeat(open));
        } else if (kind == 1) {
            all.append(";play 4".repeat(10 + random.nextInt(3)));
        } else {
            int values = 50 + random.nextInt(8);
            all.append("+1".repeat(values));
            all.append(" if ").append(sum()).append('<').append(sum()).append(" and ").append(test(1));
        }
        return all.length() > 400 ? all.substring(0, 400) : all.toString();
    }

    private String test(int depth) {
        String fact = fact(depth);
        while (random.nextInt(3) == 0 && fact.length() < 150) {
            fact += (random.nextBoolean() ? " and " : " or ") + fact(depth);
        }
        return fact;
    }

    private String fact(int depth) {
        if (depth < 4 && random.nextInt(4) == 0) {
            return random.nextBoolean() ? "[" + blanks() + test(depth + 1) + "]" : "not " + fact(depth + 1);
        }
        String[] signs = {"<", "<=", "=", ">=", ">"};
        return sum() + blanks() + signs[random.nextInt(5)] + blanks() + sum();
    }

    private String sum() {
        StringBuilder all = new StringBuilder(value());
        while (random.nextInt(2) == 0) {
            all.append(blanks()).append("+-*/%".charAt(random.nextInt(5))).append(blanks()).append(value());
        }
        return all.toString();
    }

    private String value() {
        if (random.nextInt(2) == 0) {
            return WORDS[random.nextInt(WORDS.length)];
        }
        return "" + random.nextInt(random.nextInt(6) == 0 ? 120000 : 12);
    }

    private String mutated(String text) {
        if (random.nextInt(4) > 0) {
            return text;
        }
        StringBuilder all = new StringBuilder(text);
        int many = 1 + random.nextInt(2);
        for (int k = 0; k < many; k++) {
            int at = random.nextInt(all.length() + 1);
            char sign = SIGNS.charAt(random.nextInt(SIGNS.length()));
            switch (random.nextInt(3)) {
                case 0: all.insert(at, sign); break;
                case 1: all.setLength(random.nextInt(4) == 0 ? at : all.length()); break;
                default:
                    if (at < all.length()) {
                        all.setCharAt(at, sign);
                    }
            }
            if (all.length() == 0) {
                all.append(' ');
            }
        }
        return all.length() > 400 ? all.substring(0, 400) : all.toString();
    }
}
