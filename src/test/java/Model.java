import java.util.ArrayDeque;
import java.util.ArrayList;
import java.util.Arrays;
import java.util.Deque;
import java.util.HashMap;
import java.util.List;
import java.util.Map;

/**
 * The document once more, written apart from the class and as plainly as can be (texts are read again each round,
 * ways to seat guests are all tried), so that random runs of calls can be compared.
 */
final class Model {
    static final class Fault extends RuntimeException {
        private static final long serialVersionUID = 1L;
        final int number;

        Fault(int place, int sort) {
            super(null, null, false, false);
            number = 1 + 8 * place + sort;
        }
    }

    static final class Guest implements Cloneable {
        int place;
        int step;
        int quick;
        int tired;
        int sat;
        boolean in = true;

        Guest copy() {
            Guest g = new Guest();
            g.place = place;
            g.step = step;
            g.quick = quick;
            g.tired = tired;
            g.sat = sat;
            g.in = in;
            return g;
        }
    }

    static final class Chair {
        int place;
        boolean there = true;

        Chair copy() {
            Chair c = new Chair();
            c.place = place;
            c.there = there;
            return c;
        }
    }

    static final class State {
        int places;
        List<Guest> guests = new ArrayList<>();
        List<Chair> chairs = new ArrayList<>();
        int round;
        int last = -1;
        int beats;
        int sitting;

        State copy() {
            State s = new State();
            s.places = places;
            for (Guest g : guests) {
                s.guests.add(g.copy());
            }
            for (Chair c : chairs) {
                s.chairs.add(c.copy());
            }
            s.round = round;
            s.last = last;
            s.beats = beats;
            return s;
        }

        int in() {
            int bits = 0;
            for (int g = 0; g < guests.size(); g++) {
                bits |= guests.get(g).in ? 1 << g : 0;
            }
            return bits;
        }

        int there() {
            int bits = 0;
            for (int c = 0; c < chairs.size(); c++) {
                bits |= chairs.get(c).there ? 1 << c : 0;
            }
            return bits;
        }

        boolean over() {
            return Integer.bitCount(in()) <= 1 || there() == 0;
        }

        int time(int g, int c) {
            int up = Math.floorMod(guests.get(g).place - chairs.get(c).place, places);
            int down = Math.floorMod(chairs.get(c).place - guests.get(g).place, places);
            return Math.min(up, down) * (10 + guests.get(g).tired) / guests.get(g).quick;
        }

        void walkOneBeat() {
            for (Guest g : guests) {
                if (g.in) {
                    g.place = (g.place + g.step) % places;
                }
            }
        }

        void play(int n) {
            for (int b = 0; b < n; b++) {
                walkOneBeat();
            }
            int[] seat = new int[guests.size()];
            Arrays.fill(seat, -1);
            boolean[] taken = new boolean[chairs.size()];
            int lastChair = -1;
            while (true) {
                int[] best = null;
                for (int g = 0; g < guests.size(); g++) {
                    for (int c = 0; c < chairs.size(); c++) {
                        if (guests.get(g).in && seat[g] < 0 && chairs.get(c).there && !taken[c]) {
                            int[] two = {time(g, c), g, c};
                            if (best == null || Arrays.compare(two, best) < 0) {
                                best = two;
                            }
                        }
                    }
                }
                if (best == null) {
                    break;
                }
                seat[best[1]] = best[2];
                taken[best[2]] = true;
                lastChair = best[2];
            }
            sitting = 0;
            for (int g = 0; g < guests.size(); g++) {
                Guest who = guests.get(g);
                if (!who.in) {
                    continue;
                }
                if (seat[g] < 0) {
                    who.in = false;
                    last = g;
                    continue;
                }
                sitting |= 1 << g;
                int where = chairs.get(seat[g]).place;
                if (where != who.place) {
                    who.tired = Math.min(30, who.tired + 1);
                }
                who.sat = Math.min(999, who.sat + 1);
                who.place = where;
            }
            chairs.get(lastChair).there = false;
            beats = n;
            round++;
        }

        void go(String rule) {
            if (over()) {
                sitting = 0;
                beats = 0;
                round++;
            } else if (rule == null) {
                play(8);
            } else {
                long sum = new Text(rule, this).rule();
                play((int) Math.max(1L, Math.min(60L, sum)));
            }
        }

        int alone() {
            return Integer.bitCount(in()) == 1 ? Integer.numberOfTrailingZeros(in()) : -2;
        }
    }

    /** Reads a text; a rule is worth what it says in the state that it was given. */
    static final class Text {
        final String text;
        final State state;
        int at = 0;
        int parts = 0;

        Text(String text, State state) {
            this.text = text;
            this.state = state;
        }

        void blanks() {
            while (at < text.length() && text.charAt(at) == ' ') {
                at++;
            }
        }

        /** The next token: a run of letters, a run of digits, a comparing sign, another byte, or nothing. */
        String token() {
            blanks();
            if (at == text.length()) {
                return "";
            }
            int stop = at;
            while (stop < text.length() && text.charAt(stop) >= 'a' && text.charAt(stop) <= 'z') {
                stop++;
            }
            if (stop == at) {
                while (stop < text.length() && text.charAt(stop) >= '0' && text.charAt(stop) <= '9') {
                    stop++;
                }
            }
            if (stop == at) {
                stop++;
                char sign = text.charAt(at);
                if ((sign == '<' || sign == '>') && stop < text.length() && text.charAt(stop) == '=') {
                    stop++;
                }
            }
            return text.substring(at, stop);
        }

        boolean eat(String wanted) {
            if (!token().equals(wanted)) {
                return false;
            }
            at += wanted.length();
            return true;
        }

        int number(int low, int high) {
            String digits = token();
            if (digits.isEmpty() || digits.charAt(0) < '0' || digits.charAt(0) > '9') {
                throw new Fault(at, 0);
            }
            if (digits.length() > 5 || Integer.parseInt(digits) < low || Integer.parseInt(digits) > high) {
                throw new Fault(at, 1);
            }
            at += digits.length();
            return Integer.parseInt(digits);
        }

        State party() {
            State s = new State();
            for (int clause = 0; ; clause++) {
                String word = token();
                if (!List.of("party", "chair", "guest").contains(word)) {
                    throw new Fault(at, 0);
                }
                boolean wrong = word.equals("party") != (clause == 0) || clause == 40
                    || word.equals("chair") && s.chairs.size() == 6 || word.equals("guest") && s.guests.size() == 7;
                if (wrong) {
                    throw new Fault(at, 4);
                }
                at += word.length();
                if (word.equals("party")) {
                    s.places = number(4, 24);
                } else if (word.equals("chair")) {
                    blanks();
                    int start = at;
                    Chair c = new Chair();
                    c.place = number(0, s.places - 1);
                    for (Chair other : s.chairs) {
                        if (other.place == c.place) {
                            throw new Fault(start, 1);
                        }
                    }
                    s.chairs.add(c);
                } else {
                    Guest g = new Guest();
                    g.place = number(0, s.places - 1);
                    g.step = number(0, 5);
                    g.quick = number(1, 9);
                    s.guests.add(g);
                }
                if (token().isEmpty()) {
                    return s;
                }
                if (!eat(";")) {
                    throw new Fault(at, 0);
                }
            }
        }

        long rule() {
            Long found = null;
            for (int clause = 0; ; clause++) {
                if (!token().equals("play")) {
                    throw new Fault(at, 0);
                }
                if (clause == 12) {
                    throw new Fault(at, 4);
                }
                at += 4;
                long sum = sum();
                boolean holds = !eat("if") || test(0);
                if (holds && found == null) {
                    found = sum;
                }
                if (token().isEmpty()) {
                    return found == null ? 0 : found;
                }
                if (!eat(";")) {
                    throw new Fault(at, 0);
                }
            }
        }

        boolean test(int depth) {
            boolean holds = part(depth);
            while (eat("or")) {
                holds |= part(depth);
            }
            return holds;
        }

        boolean part(int depth) {
            boolean holds = fact(depth);
            while (eat("and")) {
                holds &= fact(depth);
            }
            return holds;
        }

        boolean fact(int depth) {
            String token = token();
            if ((token.equals("not") || token.equals("[")) && depth == 10) {
                throw new Fault(at, 2);
            }
            if (eat("not")) {
                return !fact(depth + 1);
            }
            if (eat("[")) {
                boolean holds = test(depth + 1);
                if (!eat("]")) {
                    throw new Fault(at, 0);
                }
                return holds;
            }
            long left = sum();
            String sign = token();
            if (!List.of("<", "<=", "=", ">=", ">").contains(sign)) {
                throw new Fault(at, 0);
            }
            part();
            at += sign.length();
            int order = Long.compare(left, sum());
            switch (sign) {
                case "<": return order < 0;
                case "<=": return order <= 0;
                case "=": return order == 0;
                case ">=": return order >= 0;
                default: return order > 0;
            }
        }

        void part() {
            parts++;
            if (parts > 60) {
                throw new Fault(at, 3);
            }
        }

        long sum() {
            long all = term();
            while (true) {
                if (eat("+")) {
                    all += term();
                } else if (eat("-")) {
                    all -= term();
                } else {
                    return all;
                }
            }
        }

        long term() {
            long all = value();
            while (true) {
                if (eat("*")) {
                    all *= value();
                } else if (eat("/")) {
                    long by = value();
                    all = by == 0 ? 0 : all / by;
                } else if (eat("%")) {
                    long by = value();
                    all = by == 0 ? 0 : all % by;
                } else {
                    return all;
                }
            }
        }

        long value() {
            String token = token();
            if (!token.isEmpty() && token.charAt(0) >= '0' && token.charAt(0) <= '9') {
                int start = at;
                int n = number(0, 99999);
                int stop = at;
                at = start;
                part();
                at = stop;
                return n;
            }
            Long worth = words().get(token);
            if (worth == null) {
                throw new Fault(at, 0);
            }
            part();
            at += token.length();
            return worth;
        }

        Map<String, Long> words() {
            Map<String, Long> all = new HashMap<>();
            long fast = 0;
            long slow = 9;
            long near = 0;
            long tired = 0;
            for (Guest g : state.guests) {
                if (g.in) {
                    fast = Math.max(fast, g.step);
                    slow = Math.min(slow, g.step);
                    tired += g.tired;
                    near += state.chairs.stream().anyMatch(c -> c.there && c.place == g.place) ? 1 : 0;
                }
            }
            all.put("places", (long) state.places);
            all.put("round", (long) state.round);
            all.put("guests", (long) Integer.bitCount(state.in()));
            all.put("chairs", (long) Integer.bitCount(state.there()));
            all.put("last", (long) state.last);
            all.put("beats", (long) state.beats);
            all.put("fast", fast);
            all.put("slow", slow);
            all.put("near", near);
            all.put("tired", tired);
            return all;
        }
    }

    static final class Picture {
        State told = new State();
        State now = new State();
        Deque<State> past = new ArrayDeque<>();
        List<int[]> notes = new ArrayList<>();
        int force = -1;
        int x = 0;

        Picture copy() {
            Picture p = new Picture();
            p.told = told.copy();
            p.now = now.copy();
            for (State s : past) {
                p.past.addLast(s.copy());
            }
            p.notes.addAll(notes);
            p.force = force;
            p.x = x;
            return p;
        }
    }

    private String tape = "";
    private final List<String> rules = new ArrayList<>();
    private Picture p = new Picture();
    private final Picture[] images = new Picture[4];

    private String inForce() {
        return ruleAt(p.force);
    }

    private String ruleAt(int r) {
        return r < 0 ? null : rules.get(r);
    }

    private boolean told() {
        return p.now.places > 0;
    }

    private boolean guestIs(int g) {
        return g >= 0 && g < p.now.guests.size();
    }

    private boolean chairIs(int c) {
        return c >= 0 && c < p.now.chairs.size();
    }

    private boolean in(int g) {
        return guestIs(g) && p.now.guests.get(g).in;
    }

    private static boolean among(int n, int low, int high) {
        return n >= low && n <= high;
    }

    private void act() {
        p.past.addLast(p.now.copy());
        if (p.past.size() > 20) {
            p.past.removeFirst();
        }
    }

    int call(String name, int[] a) {
        switch (name) {
            case "feed": return feed(a);
            case "end": return end(a[0]);
            case "party": return party();
            case "rule": return rule();
            case "force": return force(a[0]);
            case "chair": return chair(a[0], a[1]);
            case "guest": return guest(a[0], a[1]);
            case "time": return guestIs(a[0]) && chairIs(a[1]) ? p.now.time(a[0], a[1]) : -1;
            case "round": return round();
            case "play": return play(a[0]);
            case "swap": return swap(a[0], a[1]);
            case "pace": return pace(a[0], a[1]);
            case "bring": return bring(a[0]);
            case "undo": return undo();
            case "ahead": return ahead(a[0], a[1], a[2]);
            case "winner": return winner(a[0]);
            case "gone": return gone(a[0]);
            case "safe": return safe(a[0], a[1]);
            case "row": return row(a[0], a[1], a[2]);
            case "within": return within(a[0]);
            case "kind": return kind(a[0]);
            case "longest": return longest();
            case "meet": return meet(a[0], a[1]);
            case "tour": return tour();
            case "away": return away(a[0], a[1], a[2]);
            case "begin": return begin(a[0], a[1], a[2]);
            case "steps": return fitting(a[0], 0, 5, true);
            case "quicks": return fitting(a[0], 1, 9, false);
            case "rests": return rests(a[0], a[1], a[2], a[3]);
            case "pence": return pence(a[0], a[1]);
            case "note": return note(a[0], a[1], a[2]);
            case "ruled": return ruled(a[0]);
            case "look": return look(a[0], a[1]);
            case "seed": return seed(a[0]);
            case "tunes": return tunes(a[0], a[1], a[2]);
            case "count": return count(a[0]);
            case "image": return image(a[0]);
            default: return back(a[0]);
        }
    }

    private int feed(int[] a) {
        if (tape.length() + 20 > 400) {
            return -1;
        }
        StringBuilder all = new StringBuilder(tape);
        for (int n : a) {
            for (int k = 3; k >= 0; k--) {
                all.append((char) (n >>> 8 * k & 0xff));
            }
        }
        tape = all.toString();
        return tape.length();
    }

    private int end(int n) {
        if (n < 0 || n > tape.length()) {
            return -1;
        }
        tape = tape.substring(0, n);
        return n;
    }

    private int party() {
        String text = tape;
        tape = "";
        try {
            p.told = new Text(text, null).party();
        } catch (Fault f) {
            return -2 - f.number;
        }
        p.now = p.told.copy();
        p.past.clear();
        p.notes.clear();
        return p.now.guests.size();
    }

    private int rule() {
        if (rules.size() == 6) {
            return -1;
        }
        String text = tape;
        tape = "";
        try {
            new Text(text, new State()).rule();
        } catch (Fault f) {
            return -2 - f.number;
        }
        rules.add(text);
        return rules.size() - 1;
    }

    private int force(int r) {
        if (!among(r, -1, rules.size() - 1)) {
            return -2;
        }
        int was = p.force;
        p.force = r;
        return was;
    }

    private int chair(int c, int what) {
        if (!chairIs(c) || !among(what, 0, 1)) {
            return -1;
        }
        return what == 0 ? p.now.chairs.get(c).place : p.now.chairs.get(c).there ? 1 : 0;
    }

    private int guest(int g, int what) {
        if (!guestIs(g) || !among(what, 0, 5)) {
            return -1;
        }
        Guest who = p.now.guests.get(g);
        return new int[] {who.place, who.step, who.quick, who.tired, who.sat, who.in ? 1 : 0}[what];
    }

    private int round() {
        if (!told() || p.now.round == 999) {
            return -1;
        }
        act();
        p.now.go(inForce());
        return p.now.beats;
    }

    private int play(int n) {
        if (!told() || p.now.round == 999 || p.now.over() || !among(n, 1, 60)) {
            return -1;
        }
        act();
        p.now.play(n);
        return p.now.sitting;
    }

    private int swap(int a, int b) {
        if (!in(a) || !in(b) || a == b) {
            return -1;
        }
        act();
        int was = p.now.guests.get(a).place;
        p.now.guests.get(a).place = p.now.guests.get(b).place;
        p.now.guests.get(b).place = was;
        return p.now.guests.get(a).place;
    }

    private int pace(int g, int step) {
        if (!guestIs(g) || !among(step, 0, 5) || p.now.guests.get(g).step == step) {
            return -1;
        }
        act();
        int was = p.now.guests.get(g).step;
        p.now.guests.get(g).step = step;
        return was;
    }

    private int bring(int c) {
        if (!chairIs(c) || p.now.chairs.get(c).there) {
            return -1;
        }
        act();
        p.now.chairs.get(c).there = true;
        return Integer.bitCount(p.now.there());
    }

    private int undo() {
        if (p.past.isEmpty()) {
            return -2;
        }
        p.now = p.past.removeLast();
        return p.past.size();
    }

    private int ahead(int g, int n, int what) {
        if (!told() || !among(n, 0, 40) || !among(what, 0, 2) || what == 0 && !guestIs(g)) {
            return -1;
        }
        State s = p.now.copy();
        for (int k = 0; k < n; k++) {
            s.go(inForce());
        }
        return what == 0 ? s.guests.get(g).place : what == 1 ? s.in() : s.there();
    }

    private int winner(int what) {
        if (!told() || !among(what, 0, 1)) {
            return -1;
        }
        State s = p.now.copy();
        while (!s.over()) {
            s.go(inForce());
        }
        return what == 0 ? s.alone() : s.round;
    }

    private int gone(int g) {
        if (!in(g)) {
            return -1;
        }
        State s = p.now.copy();
        while (!s.over()) {
            int r = s.round;
            s.go(inForce());
            if (!s.guests.get(g).in) {
                return r;
            }
        }
        return -2;
    }

    private int safe(int g, int what) {
        if (!in(g) || p.now.over() || !among(what, 0, 1)) {
            return -1;
        }
        List<Integer> all = new ArrayList<>();
        for (int b = 1; b <= 60; b++) {
            State s = p.now.copy();
            s.play(b);
            if ((s.sitting >> g & 1) == 1) {
                all.add(b);
            }
        }
        return what == 0 ? all.size() : all.isEmpty() ? -2 : all.get(0);
    }

    private int row(int g, int n, int what) {
        if (!in(g) || !among(n, 1, 4) || !among(what, 0, 4)) {
            return -3;
        }
        if (what > n) {
            return -1;
        }
        int all = 1;
        for (int k = 0; k < n; k++) {
            all *= 6;
        }
        int many = 0;
        int[] first = null;
        for (int code = 0; code < all; code++) {
            int[] beats = new int[n];
            int rest = code;
            for (int k = n - 1; k >= 0; k--) {
                beats[k] = 1 + rest % 6;
                rest /= 6;
            }
            State s = p.now.copy();
            for (int b : beats) {
                if (!s.over()) {
                    s.play(b);
                }
            }
            if (s.guests.get(g).in) {
                many++;
                first = first == null ? beats : first;
            }
        }
        return what == 0 ? many : first == null ? -2 : first[what - 1];
    }

    /** All ways to seat guests from g on; each as chairs by guest, 99 for none. */
    private void ways(int g, int[] chosen, List<int[]> all) {
        if (g == p.now.guests.size()) {
            all.add(chosen.clone());
            return;
        }
        for (int c = 0; c < p.now.chairs.size() && p.now.guests.get(g).in; c++) {
            boolean taken = false;
            for (int k = 0; k < g; k++) {
                taken |= chosen[k] == c;
            }
            if (p.now.chairs.get(c).there && !taken) {
                chosen[g] = c;
                ways(g + 1, chosen, all);
            }
        }
        chosen[g] = 99;
        ways(g + 1, chosen, all);
    }

    private List<int[]> ways() {
        List<int[]> all = new ArrayList<>();
        ways(0, new int[p.now.guests.size()], all);
        return all;
    }

    private static int seated(int[] way) {
        int many = 0;
        for (int c : way) {
            many += c == 99 ? 0 : 1;
        }
        return many;
    }

    private int timeOf(int[] way, boolean longest) {
        int all = 0;
        for (int g = 0; g < way.length; g++) {
            int own = way[g] == 99 ? 0 : p.now.time(g, way[g]);
            all = longest ? Math.max(all, own) : all + own;
        }
        return all;
    }

    private int within(int t) {
        if (!told() || !among(t, 0, 999)) {
            return -1;
        }
        int most = 0;
        for (int[] way : ways()) {
            if (timeOf(way, true) <= t) {
                most = Math.max(most, seated(way));
            }
        }
        return most;
    }

    private int most() {
        return Math.min(Integer.bitCount(p.now.in()), Integer.bitCount(p.now.there()));
    }

    private int kind(int what) {
        if (!told() || !among(what, -1, p.now.guests.size() - 1)) {
            return -2;
        }
        int[] best = null;
        for (int[] way : ways()) {
            if (seated(way) == most() && (best == null || timeOf(way, false) < timeOf(best, false))) {
                best = way;
            }
        }
        return what == -1 ? timeOf(best, false) : best[what] == 99 ? -1 : best[what];
    }

    private int longest() {
        if (!told()) {
            return -1;
        }
        int best = Integer.MAX_VALUE;
        for (int[] way : ways()) {
            if (seated(way) == most()) {
                best = Math.min(best, timeOf(way, true));
            }
        }
        return best;
    }

    private int meet(int a, int b) {
        if (!in(a) || !in(b) || a == b) {
            return -1;
        }
        State s = p.now.copy();
        for (int n = 0; n <= 60; n++) {
            if (s.guests.get(a).place == s.guests.get(b).place) {
                return n;
            }
            s.walkOneBeat();
        }
        return -2;
    }

    private int tour() {
        if (!told()) {
            return -1;
        }
        State s = p.now.copy();
        for (int n = 1; ; n++) {
            s.walkOneBeat();
            boolean same = true;
            for (int g = 0; g < s.guests.size(); g++) {
                same &= s.guests.get(g).place == p.now.guests.get(g).place;
            }
            if (same) {
                return n;
            }
        }
    }

    private int sits(State s, int g, int n) {
        int many = 0;
        for (int k = 0; k < n; k++) {
            s.go(inForce());
            many += s.sitting >> g & 1;
        }
        return many;
    }

    private int away(int g, int n, int what) {
        if (!in(g) || !among(n, 1, 20) || !among(what, 0, 1)) {
            return -2;
        }
        int which = -1;
        int best = sits(p.now.copy(), g, n);
        for (int c = 0; c < p.now.chairs.size(); c++) {
            State s = p.now.copy();
            if (s.chairs.get(c).there) {
                s.chairs.get(c).there = false;
                int often = sits(s, g, n);
                if (often > best) {
                    best = often;
                    which = c;
                }
            }
        }
        return what == 0 ? which : best;
    }

    private int begin(int g, int n, int what) {
        if (!in(g) || !among(n, 1, 20) || !among(what, 0, 1)) {
            return -1;
        }
        int which = p.now.guests.get(g).place;
        int best = sits(p.now.copy(), g, n);
        for (int place = 0; place < p.now.places; place++) {
            State s = p.now.copy();
            s.guests.get(g).place = place;
            int often = sits(s, g, n);
            if (often > best) {
                best = often;
                which = place;
            }
        }
        return what == 0 ? which : best;
    }

    private static boolean inBehind(State start, String rule, int n, int g) {
        State s = start.copy();
        for (int k = 0; k <= n; k++) {
            s.go(rule);
        }
        return s.guests.get(g).in;
    }

    private boolean fits(State start, String rule) {
        for (int[] note : p.notes) {
            if (inBehind(start, rule, note[0], note[1]) != (note[2] == 1)) {
                return false;
            }
        }
        return true;
    }

    private int fitting(int g, int low, int high, boolean step) {
        if (!guestIs(g)) {
            return -1;
        }
        int bits = 0;
        for (int v = low; v <= high; v++) {
            State s = p.told.copy();
            if (step) {
                s.guests.get(g).step = v;
            } else {
                s.guests.get(g).quick = v;
            }
            bits |= fits(s, inForce()) ? 1 << v : 0;
        }
        return bits;
    }

    private int rests(int a, int b, int n, int what) {
        if (!in(a) || !in(b) || a == b || !among(n, 1, 20) || !among(what, 0, 2)) {
            return -1;
        }
        int[][] one = new int[6][6];
        int[][] other = new int[6][6];
        for (int i = 0; i < 6; i++) {
            for (int j = 0; j < 6; j++) {
                State s = p.now.copy();
                s.guests.get(a).step = i;
                s.guests.get(b).step = j;
                one[i][j] = sits(s.copy(), a, n);
                other[i][j] = sits(s.copy(), b, n);
            }
        }
        List<int[]> found = new ArrayList<>();
        for (int i = 0; i < 6; i++) {
            for (int j = 0; j < 6; j++) {
                boolean rest = true;
                for (int k = 0; k < 6; k++) {
                    rest &= one[k][j] <= one[i][j] && other[i][k] <= other[i][j];
                }
                if (rest) {
                    found.add(new int[] {i, j});
                }
            }
        }
        return what == 0 ? found.size() : found.isEmpty() ? -2 : found.get(0)[what - 1];
    }

    private int pence(int much, int g) {
        if (!guestIs(g) || !among(much, 0, 9999)) {
            return -1;
        }
        int n = p.now.guests.size();
        long all = 0;
        for (Guest who : p.now.guests) {
            all += who.sat;
        }
        if (all == 0) {
            return 0;
        }
        long[] part = new long[n];
        long[] lost = new long[n];
        long left = much;
        for (int k = 0; k < n; k++) {
            part[k] = much * (long) p.now.guests.get(k).sat / all;
            lost[k] = much * (long) p.now.guests.get(k).sat % all;
            left -= part[k];
        }
        for (; left > 0; left--) {
            int best = 0;
            for (int k = 1; k < n; k++) {
                best = lost[k] > lost[best] ? k : best;
            }
            part[best]++;
            lost[best] = -1;
        }
        return (int) part[g];
    }

    private int note(int n, int g, int in) {
        if (n == -1) {
            p.notes.clear();
            return 0;
        }
        if (!among(n, 0, 20) || !guestIs(g) || !among(in, 0, 1) || p.notes.size() == 10) {
            return -2;
        }
        p.notes.add(new int[] {n, g, in});
        return p.notes.size();
    }

    private List<Integer> candidates() {
        List<Integer> all = new ArrayList<>();
        for (int r = -1; r < rules.size(); r++) {
            if (fits(p.told, ruleAt(r))) {
                all.add(r);
            }
        }
        return all;
    }

    private int ruled(int what) {
        if (!told() || !among(what, 0, 1)) {
            return -3;
        }
        List<Integer> all = candidates();
        return what == 0 ? all.size() : all.isEmpty() ? -2 : all.get(0);
    }

    private int look(int n, int what) {
        if (!told() || !among(n, 0, 20) || !among(what, 0, 1)) {
            return -1;
        }
        List<Integer> all = candidates();
        if (all.isEmpty() || p.told.guests.isEmpty()) {
            return -2;
        }
        int who = -1;
        int fewest = 99;
        for (int g = 0; g < p.told.guests.size(); g++) {
            int in = 0;
            for (int r : all) {
                in += inBehind(p.told, ruleAt(r), n, g) ? 1 : 0;
            }
            int alike = Math.max(in, all.size() - in);
            if (alike < fewest) {
                fewest = alike;
                who = g;
            }
        }
        return what == 0 ? who : fewest;
    }

    private int seed(int x) {
        if (x < 0) {
            return -1;
        }
        int was = p.x;
        p.x = x;
        return was;
    }

    private int tunes(int m, int most, int g) {
        if (!told() || !among(m, 1, 20) || !among(most, 1, 60) || g != -1 && !guestIs(g)) {
            return -2;
        }
        int many = 0;
        long x = p.x;
        for (int k = 0; k < m; k++) {
            State s = p.now.copy();
            while (!s.over()) {
                x = (x * 1103515245L + 12345L) % 2147483648L;
                s.play((int) (1 + x / 65536 % most));
            }
            many += s.alone() == (g == -1 ? -2 : g) ? 1 : 0;
        }
        return many;
    }

    private int count(int what) {
        State s = p.now;
        int[] all = {s.places, s.chairs.size(), s.guests.size(), rules.size(), p.force, s.round, s.in(), s.there(),
            told() && s.over() ? 1 : 0, s.last, s.beats, p.notes.size(), p.past.size(), p.x, tape.length()};
        return among(what, 0, 14) ? all[what] : -1;
    }

    private int image(int k) {
        if (!among(k, 0, 3)) {
            return -1;
        }
        images[k] = p.copy();
        return p.now.round;
    }

    private int back(int k) {
        if (!among(k, 0, 3) || images[k] == null) {
            return -1;
        }
        p = images[k].copy();
        return p.now.round;
    }
}
