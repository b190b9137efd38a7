import java.math.BigInteger;

/** The bounds that the document names for notes, pence, draws, counts and images: promises 28, 29 and 31 to 39. */
public final class BoundNoteTest {
    /** 0 stays 10 from the chair; 1 is on it behind 4, 10, .. beats, else as far away or further. */
    private static final String TWO = "party 6;chair 0;guest 1 0 1;guest 2 1 1";
    /** Both sit in rounds 0 to 4; guest 1 is out in round 5. */
    private static final String SIX_ROUNDS = "party 24;chair 0;chair 1;chair 2;chair 3;chair 4;chair 5;guest 5 0 1"
        + ";guest 6 0 1";

    public static void main(String[] args) {
        steps();
        stepsRefused();
        quicks();
        quicksRefused();
        fromTheBegin();
        byTheRuleInForce();
        pence();
        penceOfAll();
        penceRefused();
        notes();
        roundsOfNotes();
        mostNotes();
        noNotes();
        notesRefused();
        ruled();
        ruledRefused();
        looks();
        looksRefused();
        seeds();
        draws();
        tunes();
        tunesRefused();
        counts();
        countsRefused();
        images();
        imagesApart();
        imagesOfAllActs();
        imagesStay();
        imagesOfNotes();
        imagesOfTexts();
        imageOfNoParty();
        imagesRefused();
        Due.end("BoundNoteTest");
    }

    private static void asked(String name, Twin.Maker maker, Twin.Call call, int due) {
        Twin.refused(name, maker, call, due);
    }

    private static Twin.Maker noted(String party, String rule, int... notes) {
        return () -> {
            MusicChairs x = Due.by(party, rule);
            for (int k = 0; k < notes.length; k += 3) {
                x.note(notes[k], notes[k + 1], notes[k + 2]);
            }
            return x;
        };
    }

    /** Promise 28, numbers 0 to 5 as STEP: by one beat guest 1 comes upon the chair by one of these alone. */
    private static void steps() {
        for (int step = 0; step <= 5; step++) {
            String party = "party 24;chair 0;guest 1 0 9;guest " + (24 - step) % 24 + " 3 1";
            asked("in", noted(party, "play 1", 0, 1, 1), x -> x.steps(1), 1 << step);
            asked("out", noted(party, "play 1", 0, 1, 0), x -> x.steps(1), 63 - (1 << step));
        }
        asked("without notes all", noted(TWO, "play 1"), x -> x.steps(0), 63);
        asked("none", noted(TWO, "play 1", 0, 0, 1, 0, 0, 0), x -> x.steps(0), 0);
        asked("six away are too many", noted("party 24;chair 0;guest 1 0 9;guest 18 3 1", "play 1", 0, 1, 1),
            x -> x.steps(1), 0);
        asked("one who is out", Twin::over, x -> x.steps(0), 63);
    }

    private static void stepsRefused() {
        Twin.refusedAll("steps", Twin::midway, MusicChairs::steps, -1, 3, -1);
        Twin.refusedOf("steps", Twin::full, MusicChairs::steps, -1, 7, -1);
        Twin.refusedOf("steps", MusicChairs::new, MusicChairs::steps, -1, 0, -1);
        Twin.refused("no guests", () -> Due.at("party 4;chair 0"), x -> x.steps(0), -1);
    }

    /** Promise 29, 1 to 9 as QUICK. */
    private static void quicks() {
        // guest 0 has 10 and goes first of those who have as much
        asked("80 / 9 alone is less", noted("party 24;chair 0;guest 1 0 1;guest 8 0 1", "play 1", 0, 1, 1),
            x -> x.quicks(1), 1 << 9);
        asked("90 / 9 is not", noted("party 24;chair 0;guest 1 0 1;guest 9 0 1", "play 1", 0, 1, 1), x -> x.quicks(1), 0);
        asked("10 / 1 alone is not", noted("party 24;chair 0;guest 1 0 1;guest 1 0 9", "play 1", 0, 1, 0),
            x -> x.quicks(1), 1 << 1);
        asked("all", noted("party 24;chair 0;guest 1 0 1;guest 0 0 9", "play 1", 0, 1, 1), x -> x.quicks(1), 1022);
        asked("without notes all", noted(TWO, "play 1"), x -> x.quicks(0), 1022);
        asked("none", noted(TWO, "play 1", 0, 0, 1, 0, 0, 0), x -> x.quicks(0), 0);
        asked("one who is out", Twin::over, x -> x.quicks(0), 1022);
    }

    private static void quicksRefused() {
        Twin.refusedAll("quicks", Twin::midway, MusicChairs::quicks, -1, 3, -1);
        Twin.refusedOf("quicks", Twin::full, MusicChairs::quicks, -1, 7, -1);
        Twin.refusedOf("quicks", MusicChairs::new, MusicChairs::quicks, -1, 0, -1);
        Twin.refused("no guests", () -> Due.at("party 4;chair 0"), x -> x.quicks(0), -1);
    }

    /** From the begin on, all as the text told it: acts don't matter. */
    private static void fromTheBegin() {
        Twin.Maker acted = () -> {
            MusicChairs x = Due.at(TWO);
            Due.rule(x, "play 4");
            x.note(0, 1, 1);
            x.pace(0, 4);
            x.pace(1, 5);
            x.swap(0, 1);
            x.round();
            x.bring(0);
            return x;
        };
        asked("steps", acted, x -> x.steps(1), 4 + 32);
        asked("quicks", acted, x -> x.quicks(1), 1022 - 2 - 4);
        asked("ruled", acted, x -> x.ruled(0), 1);
        asked("ruled", acted, x -> x.ruled(1), 0);
        asked("look", acted, x -> x.look(0, 0), 0);
        asked("look", acted, x -> x.look(0, 1), 1);
    }

    /** STEPS and QUICKS by the RULE IN FORCE; RULED and LOOK by each, whatever is. */
    private static void byTheRuleInForce() {
        Twin.Maker none = () -> {
            MusicChairs x = noted(TWO, "play 4", 0, 1, 1).make();
            x.force(-1);
            return x;
        };
        Twin.Maker four = noted(TWO, "play 4", 0, 1, 1);
        asked("steps without a rule", none, x -> x.steps(1), 4 + 32);
        asked("steps by a rule", four, x -> x.steps(1), 2 + 16);
        asked("quicks without a rule", none, x -> x.quicks(1), 1022 - 2 - 4);
        asked("quicks by a rule", four, x -> x.quicks(1), 1022);
        for (Twin.Maker maker : new Twin.Maker[] {none, four}) {
            asked("ruled", maker, x -> x.ruled(0), 1);
            asked("ruled", maker, x -> x.ruled(1), 0);
            asked("look", maker, x -> x.look(0, 1), 1);
        }
    }

    /** Promise 31, PENCE (0 to 9999); nothing, if nobody has SAT. 0 and 2 sat once. */
    private static void pence() {
        int[][] due = {{0, 0, 0, 0}, {1, 1, 0, 0}, {2, 1, 0, 1}, {3, 2, 0, 1}, {9998, 4999, 0, 4999}, {9999, 5000, 0, 4999}};
        for (int[] one : due) {
            for (int g = 0; g < 3; g++) {
                int guest = g;
                asked("pence of " + one[0], Twin::midway, x -> x.pence(one[0], guest), one[g + 1]);
            }
        }
        for (int g = 0; g < 3; g++) {
            int guest = g;
            asked("nobody has sat", () -> Due.at(Twin.THREE), x -> x.pence(9999, guest), 0);
            asked("nobody has sat", () -> Due.at(Twin.THREE), x -> x.pence(0, guest), 0);
        }
        Twin.Maker once = () -> {
            MusicChairs x = Due.at(TWO);
            x.play(4);
            return x;
        };
        asked("one has sat, once", once, x -> x.pence(9999, 1), 9999);
        asked("one has sat, once", once, x -> x.pence(9999, 0), 0);
    }

    /** What is left goes to those who lost most; 0 to 6 sat 6 to 0 times. */
    private static void penceOfAll() {
        MusicChairs x = Due.at("party 24;chair 0;chair 4;chair 8;chair 12;chair 16;chair 20;guest 0 0 9;guest 4 0 9"
            + ";guest 8 0 9;guest 12 0 9;guest 16 0 9;guest 20 0 9;guest 2 0 1");
        for (int k = 0; k < 6; k++) {
            x.round();
        }
        int[] due = {2857, 2381, 1905, 1428, 952, 476, 0};
        for (int g = 0; g < 7; g++) {
            Due.is("9999 among all", x.pence(9999, g), due[g]);
        }
        for (int much : new int[] {1, 2, 6, 20, 22, 100, 9998}) {
            int all = 0;
            for (int g = 0; g < 7; g++) {
                int part = x.pence(much, g);
                Due.holds("downwards or one more", part == much * (6 - g) / 21 || part == much * (6 - g) / 21 + 1);
                all += part;
            }
            Due.is("all of " + much, all, much);
        }
        Due.is("one, to who lost most", x.pence(1, 0), 1);
    }

    private static void penceRefused() {
        Twin.refusedOf("much", Twin::midway, (x, much) -> x.pence(much, 0), -1, -1, 10000, Integer.MAX_VALUE,
            Integer.MIN_VALUE);
        Twin.refusedOf("much, when nobody sat", () -> Due.at(Twin.THREE), (x, much) -> x.pence(much, 0), -1, -1, 10000);
        Twin.refusedAll("guest of pence", Twin::midway, (x, g) -> x.pence(1, g), -1, 3, -1);
        Twin.refusedOf("guest of pence", Twin::full, (x, g) -> x.pence(1, g), -1, 7, -1);
        Twin.refused("no party", MusicChairs::new, x -> x.pence(0, 0), -1);
    }

    /** Promise 32: how many there are; no ACT. */
    private static void notes() {
        MusicChairs x = Twin.midway();
        Due.is("a second", x.note(20, 2, 1), 2);
        Due.is("of one who is out", x.note(0, 1, 1), 3);
        Due.is("told twice", x.note(0, 1, 1), 4);
        Due.is("no act", x.count(12), 4);
        x.undo();
        Due.is("undo leaves them", x.count(11), 4);
        Due.is("of the last guest", Due.at(Twin.SEVEN).note(0, 6, 0), 1);
    }

    /** Behind the n-th ROUND of all (0 to 20): guest 1 is IN behind rounds 0 to 4, OUT from 5 on. */
    private static void roundsOfNotes() {
        for (int n = 0; n <= 20; n++) {
            boolean in = n < 5;
            asked("in", noted(SIX_ROUNDS, "play 24", n, 1, 1), x -> x.ruled(0), in ? 2 : 0);
            asked("out", noted(SIX_ROUNDS, "play 24", n, 1, 0), x -> x.ruled(0), in ? 0 : 2);
            asked("in", noted(SIX_ROUNDS, "play 24", n, 1, 1), x -> x.steps(0), in ? 63 : 0);
        }
    }

    /** NOTES 0 to 9: nothing happens, if there are 10. */
    private static void mostNotes() {
        MusicChairs x = Due.at(SIX_ROUNDS);
        for (int k = 1; k <= 9; k++) {
            Due.is("note", x.note(4, 1, 1), k);
            Due.is("notes", x.count(11), k);
        }
        Due.is("so far so", x.ruled(0), 1);
        Due.is("the tenth", x.note(5, 1, 1), 10);
        Due.is("it counts", x.ruled(0), 0);
        Due.is("notes", x.count(11), 10);
        Twin.Maker ten = noted(SIX_ROUNDS, "play 24", 4, 1, 1, 4, 1, 1, 4, 1, 1, 4, 1, 1, 4, 1, 1, 4, 1, 1, 4, 1, 1, 4, 1, 1,
            4, 1, 1, 4, 1, 1);
        Twin.refused("an eleventh", ten, y -> y.note(4, 1, 1), -2);
        Twin.refused("an eleventh that is not so", ten, y -> y.note(5, 1, 1), -2);
        Twin.refused("an eleventh", Twin::full, y -> y.note(0, 0, 0), -2);
    }

    /** n NONE: there are none then, 0; whatever else is told. */
    private static void noNotes() {
        Due.is("of none", new MusicChairs().note(-1, 0, 0), 0);
        Due.is("of none", Due.at(TWO).note(-1, 0, 0), 0);
        for (int strange : new int[] {-1, 0, 2, 99, Integer.MIN_VALUE}) {
            MusicChairs x = Twin.full();
            Due.is("none then", x.note(-1, strange, strange), 0);
            Due.is("none", x.count(11), 0);
            Due.is("all rules and none", x.ruled(0), 7);
            Due.is("again one", x.note(20, 0, 1), 1);
        }
    }

    private static void notesRefused() {
        for (int in = 0; in < 2; in++) {
            int how = in;
            Twin.refusedOf("round of a note", Twin::midway, (x, n) -> x.note(n, 0, how), -2, -2, 21, 32, Integer.MAX_VALUE,
                Integer.MIN_VALUE);
            Twin.refusedAll("guest of a note", Twin::midway, (x, g) -> x.note(0, g, how), -2, 3, -1);
            Twin.refusedOf("guest of a note", MusicChairs::new, (x, g) -> x.note(0, g, how), -2, 0, -1);
        }
        Twin.refusedAll("in of a note", Twin::midway, (x, in) -> x.note(0, 0, in), -2, 2, -1);
        Twin.refusedOf("round of a note", MusicChairs::new, (x, n) -> x.note(n, 0, 0), -2, 0, 20, 21, -2);
        Twin.refused("no guests", () -> Due.at("party 4;chair 0"), x -> x.note(0, 0, 0), -2);
    }

    /** Promise 33: which of the RULES, and of none; none ahead of 0, told as NONE; -2: there is none such. */
    private static void ruled() {
        Twin.Maker six = () -> {
            MusicChairs x = Due.at(TWO);
            int[] beats = {1, 2, 3, 5, 6, 4};
            for (int k = 0; k < 6; k++) {
                Due.rule(x, "play " + beats[k]);
            }
            return x;
        };
        asked("all and none", six, x -> x.ruled(0), 7);
        asked("none is the first", six, x -> x.ruled(1), -1);
        asked("without rules", () -> Due.at(TWO), x -> x.ruled(0), 1);
        asked("without rules", () -> Due.at(TWO), x -> x.ruled(1), -1);
        Twin.Maker last = () -> {
            MusicChairs x = six.make();
            x.note(0, 1, 1);
            return x;
        };
        asked("the last alone", last, x -> x.ruled(0), 1);
        asked("the last alone", last, x -> x.ruled(1), 5);
        Twin.Maker others = () -> {
            MusicChairs x = six.make();
            x.note(0, 1, 0);
            return x;
        };
        asked("all but the last", others, x -> x.ruled(0), 6);
        asked("all but the last", others, x -> x.ruled(1), -1);
        asked("none such", noted(TWO, "play 1", 0, 0, 1, 0, 0, 0), x -> x.ruled(0), 0);
        asked("none such", noted(TWO, "play 1", 0, 0, 1, 0, 0, 0), x -> x.ruled(1), -2);
        asked("0 is the first", noted(TWO, "play 4", 0, 1, 1), x -> x.ruled(1), 0);
        asked("a party of nobody", () -> Due.at("party 4"), x -> x.ruled(0), 1);
    }

    private static void ruledRefused() {
        Twin.refusedAll("ruled", Twin::midway, MusicChairs::ruled, -3, 2, -1);
        Twin.refusedOf("ruled", MusicChairs::new, MusicChairs::ruled, -3, 0, 1, 2, -1);
    }

    /** Promise 34, LOOK behind the n-th ROUND (0 to 20); -2: no RULE is so, or there are no GUESTS. */
    private static void looks() {
        // by 4 and 10 beats guest 1 is in, without a rule guest 0
        Twin.Maker two = () -> {
            MusicChairs x = Due.at(TWO);
            Due.rule(x, "play 4");
            Due.rule(x, "play 10");
            return x;
        };
        for (int n : new int[] {0, 1, 20}) {
            asked("who", two, x -> x.look(n, 0), 0);
            asked("two of three", two, x -> x.look(n, 1), 2);
        }
        // both are in behind round 4; behind round 5 one is, whatever the beats, for nobody moves
        for (int n = 0; n <= 20; n++) {
            int round = n;
            asked("who", noted(SIX_ROUNDS, "play 1"), x -> x.look(round, 0), 0);
            asked("both alike", noted(SIX_ROUNDS, "play 1"), x -> x.look(round, 1), 2);
        }
        Twin.Maker still = () -> Due.by("party 12;chair 0;chair 6;guest 6 0 9;guest 1 0 1;guest 2 1 1", "play 10");
        asked("0 is always in; of 1 and 2 the least", still, x -> x.look(0, 0), 1);
        asked("one and one", still, x -> x.look(0, 1), 1);
        asked("without rules", () -> Due.at(TWO), x -> x.look(20, 0), 0);
        asked("without rules", () -> Due.at(TWO), x -> x.look(20, 1), 1);
        Twin.Maker no = noted(TWO, "play 4", 0, 0, 1, 0, 0, 0);
        for (int what = 0; what < 2; what++) {
            int w = what;
            asked("no rule is so", no, x -> x.look(0, w), -2);
            asked("no guests", () -> Due.at("party 4;chair 0"), x -> x.look(20, w), -2);
        }
    }

    private static void looksRefused() {
        for (int what = 0; what < 2; what++) {
            int w = what;
            Twin.refusedOf("round of a look", Twin::midway, (x, n) -> x.look(n, w), -1, -1, 21, 32, Integer.MAX_VALUE,
                Integer.MIN_VALUE);
            Twin.refusedOf("round of a look", () -> Due.at("party 4"), (x, n) -> x.look(n, w), -1, -1, 21);
            Twin.refusedOf("round of a look", MusicChairs::new, (x, n) -> x.look(n, w), -1, 0, 20, 21, -1);
        }
        Twin.refusedAll("what of a look", Twin::midway, (x, what) -> x.look(0, what), -1, 2, -1);
        Twin.refusedAll("what of a look", () -> Due.at("party 4"), (x, what) -> x.look(0, what), -1, 2, -1);
    }

    /** Promise 35: 0 to 2147483647; nothing happens, below 0. */
    private static void seeds() {
        MusicChairs x = new MusicChairs();
        int was = 0;
        for (int to : new int[] {0, 1, 65535, 65536, 2147483646, 2147483647, 0}) {
            Due.is("seed(" + to + ")", x.seed(to), was);
            Due.is("x", x.count(13), to);
            was = to;
        }
        Twin.refusedOf("seed", Twin::midway, MusicChairs::seed, -1, -1, -2, Integer.MIN_VALUE);
        Twin.refusedOf("seed", Twin::full, MusicChairs::seed, -1, -1, -2, Integer.MIN_VALUE);
        Twin.refusedOf("seed", MusicChairs::new, MusicChairs::seed, -1, -1, Integer.MIN_VALUE);
        MusicChairs y = Due.at(TWO);
        y.seed(7);
        Due.is("no act", y.undo(), -2);
    }

    /** How many of m draws from x on make beats by which guest 1 comes from 2 to 7, each party being one round. */
    private static int expected(int x, int m, int p) {
        BigInteger rest = BigInteger.valueOf(2147483648L);
        BigInteger now = BigInteger.valueOf(x);
        int many = 0;
        for (int k = 0; k < m; k++) {
            now = now.multiply(BigInteger.valueOf(1103515245)).add(BigInteger.valueOf(12345)).mod(rest);
            int beats = 1 + now.divide(BigInteger.valueOf(65536)).mod(BigInteger.valueOf(p)).intValue();
            if (beats % 7 == 5) {
                many++;
            }
        }
        return many;
    }

    /** x * 1103515245 + 12345, of 2147483648 the rest; a DRAW is x / 65536, mod p. */
    private static void draws() {
        int[] seeds = {0, 1, 12345, 65535, 65536, 1073741823, 1073741824, 2147418112, 2147483646, 2147483647};
        for (int seed : seeds) {
            MusicChairs x = Due.at("party 7;chair 0;guest 1 0 1;guest 2 1 1");
            x.seed(seed);
            for (int p : new int[] {1, 2, 3, 4, 5, 31, 32, 59, 60}) {
                for (int m : new int[] {1, 2, 19, 20}) {
                    int due = expected(seed, m, p);
                    Due.is("tunes(" + m + ", " + p + ", 1) from " + seed, x.tunes(m, p, 1), due);
                    Due.is("tunes(" + m + ", " + p + ", 0) from " + seed, x.tunes(m, p, 0), m - due);
                }
            }
            Due.is("x as it was", x.count(13), seed);
        }
    }

    /** Promise 36, TUNES m times (1 to 20) of p BEATS (1 to 60), NONE: nobody. */
    private static void tunes() {
        for (int m : new int[] {1, 20}) {
            for (int p : new int[] {1, 60}) {
                asked("over: in alone", Twin::over, x -> x.tunes(m, p, 2), m);
                asked("over: out", Twin::over, x -> x.tunes(m, p, 0), 0);
                asked("over: somebody is", Twin::over, x -> x.tunes(m, p, -1), 0);
                asked("two are in", Twin::chairless, x -> x.tunes(m, p, -1), m);
                asked("two are in", Twin::chairless, x -> x.tunes(m, p, 0), 0);
                asked("nobody is in", () -> Due.at("party 4;chair 0"), x -> x.tunes(m, p, -1), m);
                asked("one who is out can be asked", Twin::midway, x -> x.tunes(m, p, 1), 0);
                asked("somebody is", Twin::midway, x -> x.tunes(m, p, -1), 0);
            }
        }
        asked("six rounds", () -> Due.at(SIX_ROUNDS), x -> x.tunes(20, 60, 0), 20);
        asked("six rounds", () -> Due.at(SIX_ROUNDS), x -> x.tunes(20, 60, 1), 0);
        asked("six rounds", () -> Due.at(SIX_ROUNDS), x -> x.tunes(20, 60, -1), 0);
        // one beat: guest 2 is nearer
        asked("one beat", Twin::midway, x -> x.tunes(20, 1, 2), 20);
    }

    private static void tunesRefused() {
        for (int g = -1; g < 3; g++) {
            int guest = g;
            Twin.refusedAll("times", Twin::midway, (x, m) -> x.tunes(m, 60, guest), -2, 0, 21, -1);
            Twin.refusedOf("beats", Twin::midway, (x, p) -> x.tunes(20, p, guest), -2, 0, 61, 64, -1, Integer.MAX_VALUE,
                Integer.MIN_VALUE);
            Twin.refused("no party", MusicChairs::new, x -> x.tunes(1, 1, guest), -2);
        }
        Twin.refusedAll("guest of tunes", Twin::midway, (x, g) -> x.tunes(1, 1, g), -2, 3);
        Twin.refusedOf("guest of tunes", Twin::full, (x, g) -> x.tunes(1, 1, g), -2, 7, -2);
        Twin.refused("no guests", () -> Due.at("party 4;chair 0"), x -> x.tunes(1, 1, 0), -2);
    }

    /** Promise 37, what 0 to 14: without a party, in the midst, full, over. */
    private static void counts() {
        int[] none = {0, 0, 0, 0, -1, 0, 0, 0, 0, -1, 0, 0, 0, 0, 0};
        int[] midway = {10, 2, 3, 2, 1, 1, 5, 1, 0, 1, 1, 1, 4, 77, 6};
        int[] full = {24, 6, 7, 6, 5, 2, 47, 54, 0, 4, 4, 10, 20, 2147483647, 400};
        int[] over = {10, 2, 3, 0, -1, 2, 4, 0, 1, 0, 2, 0, 2, 0, 0};
        for (int what = 0; what < 15; what++) {
            int w = what;
            asked("count(" + what + ") of none", MusicChairs::new, y -> y.count(w), none[what]);
            asked("count(" + what + ") in the midst", Twin::midway, y -> y.count(w), midway[what]);
            asked("count(" + what + ") of all", Twin::full, y -> y.count(w), full[what]);
            asked("count(" + what + ") when over", Twin::over, y -> y.count(w), over[what]);
        }
    }

    private static void countsRefused() {
        Twin.refusedAll("count", Twin::midway, MusicChairs::count, -1, 15, 16, -1);
        Twin.refusedAll("count", MusicChairs::new, MusicChairs::count, -1, 15, 16, -1);
    }

    /** Promises 38 and 39, IMAGES 0 to 3: all but the RULES and the TAPE. */
    private static void images() {
        for (int k = 0; k < 4; k++) {
            MusicChairs x = Twin.midway();
            Due.is("image", x.image(k), 1);
            Due.rule(x, "play 5");
            x.force(2);
            x.seed(78);
            x.note(1, 0, 0);
            x.round();
            x.pace(2, 5);
            Due.party(x, "party 4;guest 1 1 1");
            Due.tell(x, "tape");
            Due.is("back", x.back(k), 1);
            int[] due = {10, 2, 3, 3, 1, 1, 5, 1, 0, 1, 1, 1, 4, 77, 4};
            for (int what = 0; what < due.length; what++) {
                Due.is("count(" + what + ")", x.count(what), due[what]);
            }
            Due.is("place", x.guest(0, 0), 5);
            Due.is("step", x.guest(2, 1), 3);
            Due.is("the rules stay", x.force(2), 1);
            Due.is("by the third rule", x.round(), 5);
            Due.is("as told: 6 steps of guest 0", x.steps(0) & ~63, 0);
            Due.is("the tape stays", x.rule(), Due.fault(0, 0));
        }
    }

    /** Each has its own, and is made anew. */
    private static void imagesApart() {
        MusicChairs x = Due.at(SIX_ROUNDS);
        for (int k = 0; k < 4; k++) {
            Due.is("image", x.image(k), k);
            x.round();
        }
        for (int k = 3; k >= 0; k--) {
            Due.is("back", x.back(k), k);
            Due.is("acts", x.count(12), k);
            Due.is("chairs", Integer.bitCount(x.count(7)), 6 - k);
        }
        x.back(3);
        Due.is("made anew", x.image(0), 3);
        x.back(1);
        Due.is("as made anew", x.back(0), 3);
        Due.is("image and back are no acts", x.undo(), 2);
        Due.is("the round is undone", x.count(5), 2);
    }

    /** What can be UNDONE, too: all 20, wherever they lie. */
    private static void imagesOfAllActs() {
        for (int acts : new int[] {1, 2, 19, 20, 21, 30, 41}) {
            for (int undone : new int[] {0, 1, 9, 10, 11, 20}) {
                imageOfActs(acts, undone);
            }
        }
    }

    /** So many acts, an image, so many of them undone, more acts of another sort than can be kept, and back. */
    private static void imageOfActs(int acts, int undone) {
        MusicChairs x = Due.at("party 24;guest 0 0 1;guest 1 0 1");
        for (int k = 1; k <= acts; k++) {
            x.pace(0, k % 6);
        }
        x.image(0);
        for (int k = 0; k < undone; k++) {
            x.undo();
        }
        for (int k = 0; k < 23; k++) {
            x.swap(0, 1);
        }
        x.back(0);
        int kept = Math.min(acts, 20);
        Due.is("acts", x.count(12), kept);
        for (int k = 1; k <= kept; k++) {
            Due.is("undo", x.undo(), kept - k);
            Due.is("step", x.guest(0, 1), (acts - k) % 6);
            Due.is("place", x.guest(0, 0), 0);
        }
        Due.is("none more", x.undo(), -2);
    }

    /** Gone back to, it is as it was, however often. */
    private static void imagesStay() {
        MusicChairs x = Twin.midway();
        x.image(3);
        for (int turn = 0; turn < 4; turn++) {
            Due.is("back", x.back(3), 1);
            Due.is("in", x.count(6), 5);
            Due.is("notes", x.count(11), 1);
            Due.is("x", x.count(13), 77);
            Due.is("acts", x.count(12), 4);
            Due.is("in force", x.count(4), 1);
            Due.is("round", x.round(), 2);
            x.note(-1, 0, 0);
            x.seed(turn);
            x.force(-1);
            for (int k = 0; k < 5; k++) {
                Due.is("undo", x.undo(), 4 - k);
            }
            Due.is("none more", x.undo(), -2);
            x.pace(0, 5);
        }
    }

    /** NOTES are in an image with all they say. */
    private static void imagesOfNotes() {
        int[][] notes = {{4, 1, 1}, {5, 1, 1}, {5, 0, 1}, {5, 1, 0}, {20, 0, 0}};
        for (int[] one : notes) {
            for (int[] other : notes) {
                MusicChairs x = Due.at(SIX_ROUNDS);
                x.note(one[0], one[1], one[2]);
                int due = x.ruled(0);
                x.image(0);
                x.note(-1, 0, 0);
                x.note(other[0], other[1], other[2]);
                x.back(0);
                Due.is("notes", x.count(11), 1);
                Due.is("as noted", x.ruled(0), due);
            }
        }
    }

    /** The party as the text told it is in an image, too, beside what has become of it. */
    private static void imagesOfTexts() {
        MusicChairs x = Due.at(TWO);
        x.note(0, 1, 1);
        x.pace(1, 5);
        x.round();
        x.image(0);
        Due.party(x, SIX_ROUNDS);
        x.back(0);
        Due.is("acts of the image", x.guest(1, 1), 5);
        Due.is("steps", x.steps(1), 4 + 32);
        Due.is("quicks", x.quicks(1), 1022 - 2 - 4);
        Due.is("ruled", x.ruled(0), 0);
        x.note(-1, 0, 0);
        Due.is("guest 0 is in without a rule", x.note(0, 0, 1), 1);
        Due.is("ruled", x.ruled(0), 1);
    }

    private static void imageOfNoParty() {
        for (int k = 0; k < 4; k++) {
            MusicChairs x = new MusicChairs();
            Due.is("image", x.image(k), 0);
            Due.party(x, TWO);
            x.round();
            x.note(0, 0, 1);
            x.seed(9);
            Due.is("back", x.back(k), 0);
            MusicChairs y = new MusicChairs();
            y.image(k);
            Twin.alike("back to none", x, y);
        }
    }

    private static void imagesRefused() {
        Twin.refusedAll("image", Twin::midway, MusicChairs::image, -1, 4, 5, -1);
        Twin.refusedAll("image", Twin::full, MusicChairs::image, -1, 4, -1);
        Twin.refusedAll("image", MusicChairs::new, MusicChairs::image, -1, 4, -1);
        Twin.refusedAll("back", Twin::midway, MusicChairs::back, -1, 0, 3, 4, -1);
        Twin.refusedAll("back", Twin::full, MusicChairs::back, -1, 4, -1);
        Twin.refusedAll("back", MusicChairs::new, MusicChairs::back, -1, 0, 1, 2, 3, 4, -1);
    }
}
