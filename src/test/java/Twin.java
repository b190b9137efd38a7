import java.util.ArrayList;
import java.util.List;

/** Two objects made alike: one has a call refused, and from then on both must answer alike. */
final class Twin {
    static final String THREE = "party 10;chair 0;chair 5;guest 2 1 5;guest 4 0 2;guest 9 3 9";
    static final String SEVEN = "party 24;chair 0;chair 4;chair 8;chair 12;chair 16;chair 20;guest 0 1 9;guest 4 2 8"
        + ";guest 8 3 7;guest 12 4 6;guest 16 5 5;guest 20 0 4;guest 2 1 1";
    private static final String NEXT_RULE = "play 1 if [not 1<2] or [[1>2]];play places/3";
    private static final String NEXT_PARTY = "party 5;chair 4;guest 3 2 1";
    /** What is no number of anything; 32 and 64 would be 0 again as a number of places to shift by. */
    static final int[] NO_NUMBER = {32, 33, 64, 256, Integer.MAX_VALUE, -2, -32, Integer.MIN_VALUE};

    interface Maker {
        MusicChairs make();
    }

    interface Call {
        int on(MusicChairs x);
    }

    interface CallOf {
        int on(MusicChairs x, int value);
    }

    private Twin() {
    }

    /** Guest 1 is out, chair 1 is away; a rule in force, acts, a note, an image, bytes on the tape. */
    static MusicChairs midway() {
        MusicChairs x = Due.at(THREE);
        Due.rule(x, "play 4");
        Due.rule(x, "play 3 if round=0;play guests");
        x.force(1);
        x.seed(77);
        x.swap(0, 1);
        x.swap(0, 1);
        x.image(2);
        x.play(1);
        x.pace(1, 4);
        x.note(0, 1, 0);
        x.image(1);
        Due.tell(x, "play 9");
        return x;
    }

    /** As many of all as there can be. */
    static MusicChairs full() {
        MusicChairs x = Due.at(SEVEN);
        for (int r = 0; r < 6; r++) {
            Due.rule(x, "play " + (r + 3));
        }
        x.force(5);
        x.seed(2147483647);
        for (int k = 0; k < 10; k++) {
            x.note(2 * k, 0, k == 9 ? 0 : 1);
        }
        for (int k = 0; k < 24; k++) {
            if (k % 6 == 0) {
                x.image(k / 6);
            }
            if (k < 2) {
                x.play(k + 3);
            } else {
                x.pace(k % 7, (x.guest(k % 7, 1) + 1) % 6);
            }
        }
        Due.tell(x, "party 9;chair 8" + " ".repeat(385));
        return x;
    }

    /** Guest 2 is in alone. */
    static MusicChairs over() {
        MusicChairs x = Due.at(THREE);
        x.play(1);
        x.play(2);
        return x;
    }

    /** Two are in, and there never was a chair. */
    static MusicChairs chairless() {
        return Due.at("party 4;guest 1 1 1;guest 2 1 1");
    }

    static void refused(String name, Maker maker, Call call, int due) {
        MusicChairs x = maker.make();
        Due.is(name, call.on(x), due);
        alike(name, x, maker.make());
    }

    static void refusedOf(String name, Maker maker, CallOf call, int due, int... wrong) {
        for (int value : wrong) {
            refused(name + " of " + value, maker, x -> call.on(x, value), due);
        }
    }

    /** Refused for these and for what is no number of anything. */
    static void refusedAll(String name, Maker maker, CallOf call, int due, int... wrong) {
        refusedOf(name, maker, call, due, wrong);
        refusedOf(name, maker, call, due, NO_NUMBER);
    }

    /** A text with a fault leaves all as it was but the tape, which is empty then; a text behind it is read as ever. */
    static void refusedText(String text, Call call, int due) {
        MusicChairs x = midway();
        Due.tell(x, text);
        Due.is("'" + text + "'", call.on(x), due);
        Due.is("'" + text + "': the tape is empty then", x.count(14), 0);
        MusicChairs y = midway();
        Due.tell(x, NEXT_RULE);
        Due.tell(y, NEXT_RULE);
        alike("'" + text + "'", x, y);
    }

    /** What is asked is answered so on a new object, and on one of which all else was asked ahead of it. */
    static void askedInAnyOrder(Maker maker, Call... calls) {
        int[] due = new int[calls.length];
        for (int k = 0; k < calls.length; k++) {
            due[k] = calls[k].on(maker.make());
        }
        MusicChairs x = maker.make();
        for (int k = 0; k < 2 * calls.length; k++) {
            int which = k < calls.length ? k : 2 * calls.length - 1 - k;
            Due.is("ask " + which + " behind others", calls[which].on(x), due[which]);
        }
        alike("all that is asked", x, maker.make());
    }

    static void alike(String name, MusicChairs x, MusicChairs y) {
        List<String> got = answers(x);
        List<String> want = answers(y);
        int first = 0;
        while (first < got.size() && first < want.size() && got.get(first).equals(want.get(first))) {
            first++;
        }
        boolean same = first == got.size() && first == want.size();
        String where = same ? "" : ": " + (first < got.size() ? got.get(first) : "less");
        Due.holds(name + " leaves no trace" + where, same);
    }

    private static List<String> answers(MusicChairs x) {
        List<String> all = new ArrayList<>();
        addSeen(all, x);
        addAsked(all, x);
        addRules(all, x);
        addUndone(all, x);
        addImages(all, x);
        // last, for it takes the place of all: what the tape says, and what is told then
        add(all, "party", x.party());
        add(all, "places", x.count(0));
        add(all, "another party", Due.party(x, NEXT_PARTY));
        addCounts(all, x);
        return all;
    }

    private static void add(List<String> all, String name, int answer) {
        all.add(name + " " + answer);
    }

    private static void addCounts(List<String> all, MusicChairs x) {
        for (int what = 0; what < 15; what++) {
            add(all, "count(" + what + ")", x.count(what));
        }
    }

    private static void addSeen(List<String> all, MusicChairs x) {
        addCounts(all, x);
        int chairs = x.count(1);
        for (int c = 0; c < chairs; c++) {
            add(all, "chair(" + c + ", 0)", x.chair(c, 0));
        }
        int guests = x.count(2);
        for (int g = 0; g < guests; g++) {
            for (int what = 0; what < 5; what++) {
                add(all, "guest(" + g + ", " + what + ")", x.guest(g, what));
            }
        }
    }

    private static void addAsked(List<String> all, MusicChairs x) {
        for (int what = 0; what < 2; what++) {
            add(all, "winner", x.winner(what));
            add(all, "ruled", x.ruled(what));
            add(all, "look", x.look(0, what));
        }
        int guests = x.count(2);
        for (int g = 0; g < guests; g++) {
            add(all, "steps(" + g + ")", x.steps(g));
            add(all, "quicks(" + g + ")", x.quicks(g));
        }
        add(all, "tunes", x.tunes(20, 60, 0));
        add(all, "kind", x.kind(-1));
        add(all, "pence", x.pence(9999, 0));
    }

    /** What the tape says as a rule, and what the rules say. */
    private static void addRules(List<String> all, MusicChairs x) {
        add(all, "rule", x.rule());
        add(all, "bytes", x.count(14));
        int rules = x.count(3);
        for (int r = -1; r < rules; r++) {
            add(all, "force(" + r + ")", x.force(r));
            add(all, "ahead by " + r, x.ahead(0, 1, 0));
            add(all, "winner by " + r, x.winner(1));
        }
    }

    private static void addUndone(List<String> all, MusicChairs x) {
        for (int k = 0; k < 21; k++) {
            int left = x.undo();
            add(all, "undo", left);
            if (left < 0) {
                break;
            }
            for (int what = 5; what <= 7; what++) {
                add(all, "count(" + what + ") then", x.count(what));
            }
            for (int what = 0; what < 5; what++) {
                add(all, "guest(" + k % 7 + ", " + what + ") then", x.guest(k % 7, what));
            }
        }
    }

    private static void addImages(List<String> all, MusicChairs x) {
        for (int k = 0; k < 4; k++) {
            add(all, "back(" + k + ")", x.back(k));
            addCounts(all, x);
        }
    }
}
