/** The bounds that the document names for what is seen and done by hand: promises 7 to 15, and section II of Terms. */
public final class BoundActTest {
    /** Each has a chair of their own to which they run back each round. */
    private static final String RUNNERS = "party 24;chair 0;chair 12;guest 0 1 1;guest 12 1 1";

    public static void main(String[] args) {
        chairs();
        guests();
        times();
        shorterWay();
        downwards();
        over();
        roundsWithoutAParty();
        roundsWhenOver();
        roundTheRing();
        nearestFirst();
        whoIsOut();
        nobodyIsOut();
        theChairThatGoes();
        satAndTired();
        mostTired();
        playedBeats();
        playsRefused();
        swapped();
        swapsRefused();
        paced();
        pacesRefused();
        brought();
        bringsRefused();
        mostActs();
        actsGoRound();
        lastFirst();
        undoRefused();
        allCallsOfOneObject();
        lastRound();
        Due.end("BoundActTest");
    }

    private static void guest(MusicChairs x, int guest, int... due) {
        for (int what = 0; what < due.length; what++) {
            Due.is("guest(" + guest + ", " + what + ")", x.guest(guest, what), due[what]);
        }
    }

    private static int bringTheOneAway(MusicChairs x) {
        return x.bring(x.chair(0, 1) == 0 ? 0 : 1);
    }

    /** Promise 7: NONE without these. */
    private static void chairs() {
        for (int what = 0; what < 2; what++) {
            int asked = what;
            Twin.refusedAll("chair", Twin::midway, (x, c) -> x.chair(c, asked), -1, 2, 3, -1);
            Twin.refusedAll("chair", Twin::full, (x, c) -> x.chair(c, asked), -1, 6, 7, -1);
            Twin.refusedOf("chair", MusicChairs::new, (x, c) -> x.chair(c, asked), -1, 0, -1);
            Twin.refusedOf("chair", Twin::chairless, (x, c) -> x.chair(c, asked), -1, 0, -1);
        }
        Twin.refusedAll("what of a chair", Twin::midway, (x, what) -> x.chair(0, what), -1, 2, -1);
        Twin.refusedAll("what of a chair", Twin::midway, (x, what) -> x.chair(1, what), -1, 2, -1);
        MusicChairs x = Twin.midway();
        int[] due = {0, 1, 5, 0};
        for (int k = 0; k < 4; k++) {
            Due.is("chair(" + k / 2 + ", " + k % 2 + ")", x.chair(k / 2, k % 2), due[k]);
        }
        Due.is("the last of six", Twin.full().chair(5, 0), 20);
        MusicChairs full = Twin.full();
        int[] there = {0, 1, 1, 0, 1, 1};
        for (int c = 0; c < 6; c++) {
            Due.is("chair(" + c + ", 1)", full.chair(c, 1), there[c]);
        }
    }

    /** Promise 8: NONE without these. */
    private static void guests() {
        for (int what = 0; what < 6; what++) {
            int asked = what;
            Twin.refusedAll("guest", Twin::midway, (x, g) -> x.guest(g, asked), -1, 3, 4, -1);
            Twin.refusedOf("guest", Twin::full, (x, g) -> x.guest(g, asked), -1, 7, 8, -1);
            Twin.refusedOf("guest", MusicChairs::new, (x, g) -> x.guest(g, asked), -1, 0, -1);
        }
        Twin.refusedAll("what of a guest", Twin::midway, (x, what) -> x.guest(0, what), -1, 6, -1);
        Twin.refusedAll("what of a guest", Twin::midway, (x, what) -> x.guest(1, what), -1, 6, -1);
        MusicChairs x = Twin.midway();
        guest(x, 0, 5, 1, 5, 1, 1, 1);
        guest(x, 1, 4, 4, 2, 0, 0, 0);
        guest(x, 2, 0, 3, 9, 1, 1, 1);
        Due.is("the last of seven", Due.at(Twin.SEVEN).guest(6, 0), 2);
    }

    /** Promise 9: IN or OUT, THERE or not; NONE without these. */
    private static void times() {
        MusicChairs x = Twin.midway();
        int[] due = {5 * 11 / 5, 0, 4 * 10 / 2, 10 / 2, 0, 5 * 11 / 9};
        for (int k = 0; k < 6; k++) {
            Due.is("time(" + k / 2 + ", " + k % 2 + ")", x.time(k / 2, k % 2), due[k]);
        }
        Twin.refusedAll("guest of a time", Twin::midway, (y, g) -> y.time(g, 0), -1, 3, -1);
        Twin.refusedAll("chair of a time", Twin::midway, (y, c) -> y.time(0, c), -1, 2, -1);
        Twin.refusedOf("guest of a time", Twin::full, (y, g) -> y.time(g, 5), -1, 7, -1);
        Twin.refusedOf("chair of a time", Twin::full, (y, c) -> y.time(6, c), -1, 6, -1);
        Twin.refused("no party", MusicChairs::new, y -> y.time(0, 0), -1);
        Twin.refused("no chairs", Twin::chairless, y -> y.time(0, 0), -1);
        // 2 from chair 5 at 20, 6 from chair 0
        MusicChairs seven = Due.at(Twin.SEVEN);
        Due.is("the last of both", seven.time(6, 5), 60);
        Due.is("the last of both", seven.time(5, 0), 10);
    }

    /** How FAR is by the shorter way round the ring. */
    private static void shorterWay() {
        for (int n : new int[] {4, 5, 9, 10, 23, 24}) {
            for (int chair : new int[] {0, 1, n / 2, n - 1}) {
                MusicChairs x = Due.at("party " + n + ";chair " + chair + ";guest 0 0 1;guest 1 0 1;guest " + (n - 1)
                    + " 0 1;guest " + n / 2 + " 0 1;guest " + (n + 1) / 2 + " 0 1");
                int[] at = {0, 1, n - 1, n / 2, (n + 1) / 2};
                for (int g = 0; g < at.length; g++) {
                    int steps = 0;
                    while ((at[g] + steps) % n != chair && (chair + steps) % n != at[g]) {
                        steps++;
                    }
                    Due.is(at[g] + " from " + chair + " of " + n, x.time(g, 0), 10 * steps);
                }
            }
        }
        MusicChairs x = Due.at("party 24;chair 0;guest 12 0 1;guest 13 0 1;guest 11 0 1;guest 23 0 1");
        int[] due = {120, 110, 110, 10};
        for (int g = 0; g < 4; g++) {
            Due.is("time", x.time(g, 0), due[g]);
        }
    }

    /** FAR * (10 + TIRED) / QUICK, downwards. */
    private static void downwards() {
        int[] due = {0, 50, 25, 16, 12, 10, 8, 7, 6, 5};
        for (int quick = 1; quick <= 9; quick++) {
            Due.is("50 / " + quick, Due.at("party 10;chair 0;guest 5 0 " + quick).time(0, 0), due[quick]);
        }
        Due.is("10 / 9", Due.at("party 10;chair 0;guest 9 0 9").time(0, 0), 1);
        Due.is("0 / 9", Due.at("party 10;chair 0;guest 0 0 9").time(0, 0), 0);
        MusicChairs x = Due.at("party 24;chair 0;chair 12;guest 0 1 7;guest 12 1 7");
        x.play(1);
        Due.is("12 * 11 / 7", x.time(0, 1), 18);
    }

    /** It is OVER, if one GUEST at most is IN, or no CHAIR is THERE. */
    private static void over() {
        Due.is("without a party it is not", new MusicChairs().count(8), 0);
        Due.is("nobody", Due.at("party 4;chair 0;chair 1").count(8), 1);
        Due.is("nobody and nothing", Due.at("party 4").count(8), 1);
        Due.is("one", Due.at("party 4;chair 0;chair 1;guest 0 0 1").count(8), 1);
        Due.is("two and one chair", Due.at("party 4;chair 0;guest 0 0 1;guest 1 0 1").count(8), 0);
        Due.is("two and no chair", Twin.chairless().count(8), 1);
        Due.is("seven and no chair", Due.at("party 4" + ";guest 0 0 1".repeat(7)).count(8), 1);
        Due.is("two and six chairs", Due.at("party 24;chair 0;chair 1;chair 2;chair 3;chair 4;chair 5;guest 0 0 1"
            + ";guest 1 0 1").count(8), 0);
        MusicChairs x = Due.at(RUNNERS);
        x.play(1);
        Due.is("two and the last chair", x.count(8), 0);
        x.play(1);
        Due.is("one is out, no chair is there", x.count(8), 1);
        bringTheOneAway(x);
        Due.is("one is in", x.count(8), 1);
    }

    /** Promise 10: nothing happens, without a PARTY. */
    private static void roundsWithoutAParty() {
        Twin.refused("round", MusicChairs::new, MusicChairs::round, -1);
        Twin.Maker ruled = () -> {
            MusicChairs x = new MusicChairs();
            Due.rule(x, "play 4");
            x.force(0);
            return x;
        };
        Twin.refused("round by a rule", ruled, MusicChairs::round, -1);
        Twin.refused("play", ruled, x -> x.play(1), -1);
    }

    /** If it is OVER, nothing happens but that no BEATS are played (0) and ROUND is 1 more. */
    private static void roundsWhenOver() {
        MusicChairs x = Twin.over();
        Due.is("beats", x.count(10), 2);
        for (int k = 3; k <= 9; k++) {
            Due.is("round", x.round(), 0);
            int[] due = {10, 2, 3, 0, -1, k, 4, 0, 1, 0, 0, 0, k};
            for (int what = 0; what < due.length; what++) {
                Due.is("count(" + what + ")", x.count(what), due[what]);
            }
            guest(x, 0, 7, 1, 5, 1, 1, 0);
            guest(x, 1, 4, 0, 2, 0, 0, 0);
            guest(x, 2, 0, 3, 9, 2, 2, 1);
        }
        MusicChairs two = Twin.chairless();
        Due.is("two without a chair", two.round(), 0);
        guest(two, 0, 1, 1, 1, 0, 0, 1);
        guest(two, 1, 2, 1, 1, 0, 0, 1);
        Due.is("round", two.count(5), 1);
        Due.is("nobody was out", two.count(9), -1);
        MusicChairs by = Due.by("party 4", "play 7");
        Due.is("a rule does not matter", by.round(), 0);
        Due.is("beats", by.count(10), 0);
        Due.is("an act", by.undo(), 0);
        Due.is("round", by.count(5), 0);
    }

    /** STEP PLACES upwards each BEAT, round the ring. */
    private static void roundTheRing() {
        // guest 0 is the slowest, so that they are out and stay where they have gone to
        int[][] cases = {{4, 3, 1, 1, 0}, {4, 0, 5, 1, 1}, {4, 1, 5, 3, 0}, {24, 23, 1, 1, 0}, {24, 23, 5, 60, 11},
            {24, 0, 5, 60, 12}, {7, 6, 5, 60, 5}, {24, 20, 1, 3, 23}, {24, 20, 1, 4, 0}, {9, 8, 0, 60, 8}};
        for (int[] one : cases) {
            MusicChairs x = Due.at("party " + one[0] + ";chair " + (one[4] + 2) % one[0] + ";guest " + one[1] + " " + one[2]
                + " 1;guest " + (one[4] + 2) % one[0] + " 0 9");
            Due.is("1 sits", x.play(one[3]), 2);
            Due.is("the place of 0", x.guest(0, 0), one[4]);
        }
        MusicChairs x = Due.at("party 24;chair 0;guest 23 1 1;guest 1 1 9");
        Due.is("0 comes to the chair", x.play(1), 1);
        Due.is("and is not tired", x.guest(0, 3), 0);
        Due.is("who is out goes no further", x.guest(1, 0), 2);
        x.round();
        Due.is("who is out goes no further", x.guest(1, 0), 2);
    }

    /** Of least TIME, then of the least GUEST, then of the least CHAIR. */
    private static void nearestFirst() {
        MusicChairs quick = Due.at("party 24;chair 0;guest 1 0 1;guest 2 0 3");
        Due.is("20 / 3 is less than 10", quick.play(1), 2);
        MusicChairs alike = Due.at("party 24;chair 0;guest 2 0 2;guest 1 0 1;guest 23 0 1");
        Due.is("10 each: the least guest", alike.play(1), 1);
        MusicChairs between = Due.at("party 24;chair 2;chair 0;guest 1 0 1;guest 12 0 1");
        Due.is("both", between.play(1), 3);
        Due.is("10 each: the least chair, which is told first", between.guest(0, 0), 2);
        Due.is("the other one", between.guest(1, 0), 0);
        // 9 and 8 downwards are alike, so the least guest goes first, though the other one is nearer
        MusicChairs down = Due.at("party 24;chair 0;guest 6 0 7;guest 5 0 6");
        Due.is("60 / 7 is 8, 50 / 6 is 8", down.play(1), 1);
        MusicChairs taken = Due.at("party 24;chair 0;chair 8;guest 1 0 1;guest 2 0 1;guest 12 0 1");
        Due.is("0 takes the chair that 1 is nearest to, and 2 is nearer to the other one", taken.play(1), 5);
    }

    /** Who does not SIT is OUT; of these the greatest number was OUT last. */
    private static void whoIsOut() {
        MusicChairs x = Due.at("party 24;chair 0;guest 3 0 1;guest 2 0 1;guest 1 0 1;guest 4 0 1;guest 5 0 1;guest 6 0 1"
            + ";guest 0 0 1");
        Due.is("6 alone", x.play(1), 64);
        Due.is("in", x.count(6), 64);
        Due.is("5 was out last", x.count(9), 5);
        Due.is("over", x.count(8), 1);
        MusicChairs first = Due.at("party 24;chair 0;guest 1 0 1;guest 0 0 1");
        Due.is("1 alone", first.play(1), 2);
        Due.is("0 was out last", first.count(9), 0);
    }

    private static void nobodyIsOut() {
        MusicChairs x = Due.at(RUNNERS);
        Due.is("both", x.play(1), 3);
        Due.is("nobody was out", x.count(9), -1);
        MusicChairs y = Due.at("party 24;chair 0;chair 12;chair 6;guest 0 0 1;guest 12 0 1;guest 6 0 1;guest 3 0 1");
        Due.is("three", y.play(1), 7);
        Due.is("3 was", y.count(9), 3);
        bringTheOneAway(y);
        Due.is("bring", y.bring(2), 3);
        Due.is("three again", y.play(1), 7);
        Due.is("3 was, still", y.count(9), 3);
    }

    /** The CHAIR on which one SAT last is taken away. */
    private static void theChairThatGoes() {
        MusicChairs x = Due.at("party 24;chair 0;chair 8;chair 16;guest 1 0 1;guest 9 0 9;guest 18 0 1;guest 4 0 1");
        Due.is("0, 1 and 2", x.play(1), 7);
        Due.is("chair 2, for 2 was last", x.count(7), 3);
        MusicChairs few = Due.at("party 24;chair 0;chair 8;chair 16;guest 17 0 1;guest 9 0 9");
        Due.is("both", few.play(1), 3);
        Due.is("no chair on which nobody sat", few.count(7), 3);
        MusicChairs one = Due.at("party 24;chair 5;guest 5 0 1;guest 9 0 1");
        Due.is("0", one.play(1), 1);
        Due.is("the only one", one.count(7), 0);
    }

    /** Has SAT 1 more and is 1 more TIRED, if it was not their PLACE. */
    private static void satAndTired() {
        MusicChairs x = Due.at("party 24;chair 0;chair 12;guest 0 0 1;guest 11 0 1;guest 6 0 9");
        // 2 is 60 / 9 = 6 from both, behind 0 who sits at once: they take chair 1, ahead of 1
        Due.is("0 and 2", x.play(1), 5);
        guest(x, 0, 0, 0, 1, 0, 1, 1);
        guest(x, 1, 11, 0, 1, 0, 0, 0);
        guest(x, 2, 12, 0, 9, 1, 1, 1);
        // both are kept apart by undo and by images
        x.image(0);
        x.play(1);
        guest(x, 0, 0, 0, 1, 0, 2, 1);
        x.undo();
        guest(x, 0, 0, 0, 1, 0, 1, 1);
        x.swap(0, 2);
        x.back(0);
        guest(x, 0, 0, 0, 1, 0, 1, 1);
        guest(x, 2, 12, 0, 9, 1, 1, 1);
        Due.is("time of one who is not tired", x.time(0, 1), 120);
    }

    /** 30 at most. */
    private static void mostTired() {
        MusicChairs x = Due.at(RUNNERS);
        for (int k = 1; k <= 33; k++) {
            Due.is("both", x.play(1), 3);
            guest(x, 0, 0, 1, 1, Math.min(k, 30), k, 1);
            Due.is("time", x.time(0, 1), 12 * (10 + Math.min(k, 30)));
            Due.is("chairs", bringTheOneAway(x), 2);
        }
        Due.is("tired, together", Due.rule(x, "play tired"), 0);
        x.force(0);
        Due.is("60", x.round(), 60);
    }

    /** Promise 11: 1 to 60 told BEATS. */
    private static void playedBeats() {
        for (int beats = 1; beats <= 60; beats++) {
            MusicChairs x = Due.at("party 7;chair 0;guest 1 1 1;guest 0 0 9");
            Due.is("play(" + beats + ")", x.play(beats), beats % 7 == 6 ? 1 : 2);
            Due.is("beats", x.count(10), beats);
            Due.is("place", x.guest(0, 0), (1 + beats) % 7);
            Due.is("round", x.count(5), 1);
        }
    }

    private static void playsRefused() {
        Twin.refusedOf("play", Twin::midway, MusicChairs::play, -1, 0, 61, 64, 256, -1, -60, Integer.MAX_VALUE,
            Integer.MIN_VALUE);
        Twin.refusedOf("play", MusicChairs::new, MusicChairs::play, -1, 0, 1, 8, 60, 61);
        Twin.refusedOf("play", Twin::over, MusicChairs::play, -1, 0, 1, 8, 60, 61);
        Twin.refusedOf("play", Twin::chairless, MusicChairs::play, -1, 0, 1, 8, 60, 61);
        Twin.refusedOf("play", () -> Due.at("party 4;chair 0;guest 0 0 1"), MusicChairs::play, -1, 1, 60);
    }

    /** Promise 12: two GUESTS who are IN change PLACES, be these unlike or not. */
    private static void swapped() {
        MusicChairs x = Twin.midway();
        Due.is("swap", x.swap(2, 0), 5);
        guest(x, 2, 5, 3, 9, 1, 1, 1);
        guest(x, 0, 0, 1, 5, 1, 1, 1);
        Due.is("the other way", x.swap(0, 2), 5);
        Due.is("acts", x.count(12), 6);
        MusicChairs alike = Due.at("party 4;chair 0;guest 3 0 1;guest 3 1 1");
        Due.is("places alike", alike.swap(0, 1), 3);
        Due.is("an act all the same", alike.count(12), 1);
        MusicChairs over = Twin.chairless();
        Due.is("over", over.swap(0, 1), 2);
        Due.is("changed", over.guest(1, 0), 1);
        Due.is("the first and the last of seven", Due.at(Twin.SEVEN).swap(6, 0), 0);
    }

    private static void swapsRefused() {
        Twin.refused("one who is out", Twin::midway, x -> x.swap(0, 1), -1);
        Twin.refused("one who is out", Twin::midway, x -> x.swap(1, 2), -1);
        for (int g = 0; g < 3; g++) {
            int one = g;
            Twin.refused("oneself", Twin::midway, x -> x.swap(one, one), -1);
        }
        Twin.refusedAll("the first of a swap", Twin::midway, (x, g) -> x.swap(g, 0), -1, 3, -1);
        Twin.refusedAll("the second of a swap", Twin::midway, (x, g) -> x.swap(0, g), -1, 3, -1);
        Twin.refusedAll("both of a swap", Twin::midway, (x, g) -> x.swap(g, g), -1, 3, -1);
        Twin.refusedOf("the second of a swap", Twin::full, (x, g) -> x.swap(0, g), -1, 7, -1);
        Twin.refused("no party", MusicChairs::new, x -> x.swap(0, 1), -1);
        Twin.refused("one alone", Twin::over, x -> x.swap(2, 0), -1);
    }

    /** Promise 13: a GUEST, IN or OUT, has another STEP, 0 to 5. */
    private static void paced() {
        MusicChairs x = Twin.midway();
        int[] rows = {5, 0, 1, 2, 3, 4};
        int was = 1;
        for (int step : rows) {
            if (step != was) {
                Due.is("pace(0, " + step + ")", x.pace(0, step), was);
                Due.is("step", x.guest(0, 1), step);
                was = step;
            }
        }
        Due.is("one who is out", x.pace(1, 0), 4);
        Due.is("step", x.guest(1, 1), 0);
        Due.is("over", Twin.over().pace(2, 0), 3);
        Due.is("the last of seven", Due.at(Twin.SEVEN).pace(6, 5), 1);
    }

    private static void pacesRefused() {
        Twin.refused("the same one", Twin::midway, x -> x.pace(0, 1), -1);
        Twin.refused("the same one, set by hand", Twin::midway, x -> x.pace(1, 4), -1);
        Twin.refused("none, when it is none", () -> Due.at(Twin.THREE), x -> x.pace(1, 0), -1);
        for (int g = 0; g < 2; g++) {
            int one = g;
            Twin.refusedAll("pace", Twin::midway, (x, step) -> x.pace(one, step), -1, 6, 7, -1);
        }
        Twin.refusedAll("guest of a pace", Twin::midway, (x, g) -> x.pace(g, 2), -1, 3, -1);
        Twin.refusedOf("guest of a pace", Twin::full, (x, g) -> x.pace(g, 2), -1, 7, -1);
        Twin.refused("no party", MusicChairs::new, x -> x.pace(0, 1), -1);
    }

    /** Promise 14: a CHAIR that is not THERE is THERE again. */
    private static void brought() {
        MusicChairs x = Twin.midway();
        Due.is("bring", x.bring(1), 2);
        Due.is("there", x.count(7), 3);
        Due.is("an act", x.count(12), 5);
        MusicChairs over = Twin.over();
        Due.is("over", over.bring(1), 1);
        Due.is("over", over.bring(0), 2);
        Due.is("over", over.count(8), 1);
        MusicChairs six = Due.at("party 24;chair 0;chair 1;chair 2;chair 3;chair 4;chair 5;guest 5 0 1;guest 5 0 1");
        Due.is("5 and 4 are taken", six.play(1), 3);
        Due.is("4 goes", six.count(7), 47);
        Due.is("six", six.bring(4), 6);
        Due.is("it can be taken again", six.play(1), 3);
        Due.is("it goes again", six.count(7), 47);
    }

    private static void bringsRefused() {
        Twin.refused("it is there", Twin::midway, x -> x.bring(0), -1);
        Twin.refusedAll("bring", Twin::midway, MusicChairs::bring, -1, 2, -1);
        Twin.refusedAll("bring", Twin::full, MusicChairs::bring, -1, 6, -1);
        Twin.refusedOf("bring", Twin::chairless, MusicChairs::bring, -1, 0, -1);
        Twin.refusedOf("bring", MusicChairs::new, MusicChairs::bring, -1, 0, -1);
        Twin.Maker again = () -> {
            MusicChairs x = Twin.midway();
            x.bring(1);
            return x;
        };
        Twin.refused("it is there again", again, x -> x.bring(1), -1);
    }

    /** The last 20 can be UNDONE. */
    private static void mostActs() {
        for (int acts : new int[] {1, 19, 20, 21, 39, 40, 41}) {
            MusicChairs x = Due.at("party 24;guest 0 0 1");
            for (int k = 1; k <= acts; k++) {
                x.pace(0, k % 6);
            }
            int kept = Math.min(acts, 20);
            Due.is(acts + " acts", x.count(12), kept);
            for (int k = 1; k <= kept; k++) {
                Due.is("undo", x.undo(), kept - k);
                Due.is("step", x.guest(0, 1), (acts - k) % 6);
                Due.is("acts", x.count(12), kept - k);
            }
            Due.is("none more", x.undo(), -2);
            Due.is("step", x.guest(0, 1), (acts - kept) % 6);
        }
    }

    private static void actsGoRound() {
        MusicChairs x = Due.at("party 24;guest 0 0 1");
        int step = 0;
        for (int turn = 0; turn < 9; turn++) {
            for (int k = 0; k < 7; k++) {
                step = (step + 1) % 6;
                x.pace(0, step);
            }
            for (int k = 0; k < 5; k++) {
                step = (step + 5) % 6;
                Due.is("undo", x.undo(), Math.min(20, 7 + 2 * turn) - k - 1);
                Due.is("step", x.guest(0, 1), step);
            }
        }
    }

    /** The last first, each as it was before. */
    private static void lastFirst() {
        MusicChairs x = Due.at(Twin.THREE);
        x.play(1);
        x.bring(1);
        x.swap(0, 2);
        x.pace(1, 5);
        x.round();
        x.round();
        x.round();
        Due.is("acts", x.count(12), 7);
        Due.is("over", x.count(8), 1);
        x.undo();
        Due.is("over since the round before", x.count(8), 1);
        Due.is("beats of the round before", x.count(10), 8);
        x.undo();
        x.undo();
        Due.is("in", x.count(6), 5);
        Due.is("there", x.count(7), 3);
        Due.is("round", x.count(5), 1);
        guest(x, 1, 4, 5, 2, 0, 0, 0);
        Due.is("pace", x.undo(), 3);
        guest(x, 1, 4, 0, 2, 0, 0, 0);
        guest(x, 0, 0, 1, 5, 1, 1, 1);
        Due.is("swap", x.undo(), 2);
        guest(x, 0, 5, 1, 5, 1, 1, 1);
        guest(x, 2, 0, 3, 9, 1, 1, 1);
        Due.is("bring", x.undo(), 1);
        Due.is("there", x.count(7), 1);
        Due.is("play", x.undo(), 0);
        guest(x, 0, 2, 1, 5, 0, 0, 1);
        guest(x, 1, 4, 0, 2, 0, 0, 1);
        guest(x, 2, 9, 3, 9, 0, 0, 1);
        int[] due = {10, 2, 3, 0, -1, 0, 7, 3, 0, -1, 0, 0, 0, 0, 0};
        for (int what = 0; what < due.length; what++) {
            Due.is("count(" + what + ")", x.count(what), due[what]);
        }
    }

    /** Promise 15: nothing happens, none can. */
    private static void undoRefused() {
        Twin.refused("undo", MusicChairs::new, MusicChairs::undo, -2);
        Twin.refused("undo", () -> Due.at(Twin.THREE), MusicChairs::undo, -2);
        Twin.Maker undone = () -> {
            MusicChairs x = Twin.full();
            for (int k = 0; k < 20; k++) {
                x.undo();
            }
            return x;
        };
        Twin.refused("undo", undone, MusicChairs::undo, -2);
        MusicChairs x = undone.make();
        Due.is("none can", x.count(12), 0);
        Due.is("none more", x.undo(), -2);
        Due.is("the first four stay", x.count(5), 2);
        Due.is("x stays", x.count(13), 2147483647);
        Due.is("notes stay", x.count(11), 10);
        Due.is("the rule in force stays", x.count(4), 5);
    }

    /** An object is used for at most 512 calls: four for the party, 507 rounds, one to look. */
    private static void allCallsOfOneObject() {
        MusicChairs x = new MusicChairs();
        Due.tell(x, "party 4");
        x.party();
        for (int k = 1; k <= 507; k++) {
            Due.is("round " + k, x.round(), 0);
        }
        Due.is("rounds", x.count(5), 507);
    }

    /** ROUND 999 lies beyond 512 calls, where answers are free; here it shows that the class keeps to it all the same. */
    private static void lastRound() {
        MusicChairs x = Due.at(RUNNERS);
        for (int k = 0; k < 999; k++) {
            Due.is("both", x.play(1), 3);
            bringTheOneAway(x);
        }
        Due.is("round", x.count(5), 999);
        Due.is("sat", x.guest(0, 4), 999);
        Due.is("play", x.play(1), -1);
        Due.is("round", x.round(), -1);
        Due.is("nothing happens", x.count(5), 999);
        Due.is("nothing happens", x.count(7), 3);
        Due.is("rounds that are asked go on", x.ahead(0, 1, 2), 2);
        Due.is("rounds that are asked go on", x.winner(1), 1001);
        Due.is("undo", x.undo(), 19);
        Due.is("undo", x.undo(), 18);
        Due.is("round", x.count(5), 998);
        Due.is("the last one", x.round(), 8);
        MusicChairs over = Due.at("party 4");
        for (int k = 0; k < 999; k++) {
            over.round();
        }
        Due.is("over", over.round(), -1);
        Due.is("round", over.count(5), 999);
    }
}
