/** The bounds that the document names for what is asked: promises 16 to 27 and 30. By none of it anything changes. */
public final class BoundAskTest {
    public static void main(String[] args) {
        aheads();
        aheadsRefused();
        winners();
        winnersRefused();
        gones();
        gonesRefused();
        safes();
        safeBeats();
        safesRefused();
        rows();
        rowBeats();
        rowsOfNoRounds();
        rowsRefused();
        withins();
        withinsRefused();
        kinds();
        kindOfSeveral();
        chairsThatAreAway();
        kindsRefused();
        longests();
        meets();
        meetsRefused();
        tours();
        aways();
        awayOfSeveral();
        awaysRefused();
        begins();
        beginOfSeveral();
        beginsRefused();
        rests();
        noRests();
        restsRefused();
        byTheRuleInForce();
        fromNowOn();
        againAndAgain();
        Due.end("BoundAskTest");
    }

    /** Answered so, and nothing changes. */
    private static void asked(String name, Twin.Maker maker, Twin.Call call, int due) {
        Twin.refused(name, maker, call, due);
    }

    /** Promise 16, AHEAD n ROUNDS (0 to 40). By two beats guest 2 takes the last chair, guest 0 is out at 7. */
    private static void aheads() {
        asked("0, now", Twin::midway, x -> x.ahead(0, 0, 0), 5);
        asked("0, one", Twin::midway, x -> x.ahead(0, 1, 0), 7);
        asked("1, who is out", Twin::midway, x -> x.ahead(1, 0, 0), 4);
        asked("1, who is out", Twin::midway, x -> x.ahead(1, 40, 0), 4);
        asked("2, forty", Twin::midway, x -> x.ahead(2, 40, 0), 0);
        asked("in, now", Twin::midway, x -> x.ahead(0, 0, 1), 5);
        asked("in, one", Twin::midway, x -> x.ahead(0, 1, 1), 4);
        asked("in, forty", Twin::midway, x -> x.ahead(0, 40, 1), 4);
        asked("there, now", Twin::midway, x -> x.ahead(0, 0, 2), 1);
        asked("there, one", Twin::midway, x -> x.ahead(0, 1, 2), 0);
        asked("there, forty", Twin::midway, x -> x.ahead(0, 40, 2), 0);
        asked("over", Twin::chairless, x -> x.ahead(1, 40, 0), 2);
        asked("no guests", () -> Due.at("party 4;chair 0"), x -> x.ahead(0, 40, 2), 1);
        // no guest is asked for these two
        for (int g : new int[] {-1, 3, 32, Integer.MAX_VALUE, Integer.MIN_VALUE}) {
            asked("in", Twin::midway, x -> x.ahead(g, 1, 1), 4);
            asked("there", Twin::midway, x -> x.ahead(g, 1, 2), 0);
        }
    }

    private static void aheadsRefused() {
        for (int what = 0; what < 3; what++) {
            int w = what;
            Twin.refusedOf("rounds ahead", Twin::midway, (x, n) -> x.ahead(0, n, w), -1, -1, 41, 64, Integer.MAX_VALUE,
                Integer.MIN_VALUE);
            Twin.refused("no party", MusicChairs::new, x -> x.ahead(0, 0, w), -1);
        }
        Twin.refusedAll("guest ahead", Twin::midway, (x, g) -> x.ahead(g, 0, 0), -1, 3, -1);
        Twin.refusedOf("guest ahead", Twin::full, (x, g) -> x.ahead(g, 0, 0), -1, 7, -1);
        Twin.refusedAll("what ahead", Twin::midway, (x, what) -> x.ahead(0, 0, what), -1, 3, -1);
    }

    /** Promise 17: as soon as it is OVER (it can be now), who is IN alone (-2: nobody); the ROUND it is then. */
    private static void winners() {
        asked("who", Twin::midway, x -> x.winner(0), 2);
        asked("when", Twin::midway, x -> x.winner(1), 2);
        asked("who, now", Twin::over, x -> x.winner(0), 2);
        asked("when, now", Twin::over, x -> x.winner(1), 2);
        asked("two are in", Twin::chairless, x -> x.winner(0), -2);
        asked("two are in", Twin::chairless, x -> x.winner(1), 0);
        asked("nobody is in", () -> Due.at("party 4"), x -> x.winner(0), -2);
        asked("one is in", () -> Due.at("party 4;chair 0;guest 0 0 1"), x -> x.winner(0), 0);
        // more chairs than guests: rounds go on till chairs are fewer
        Twin.Maker six = () -> Due.at("party 24;chair 0;chair 1;chair 2;chair 3;chair 4;chair 5;guest 5 0 1;guest 6 0 1");
        asked("six chairs", six, x -> x.winner(1), 6);
        asked("six chairs", six, x -> x.winner(0), 0);
        Twin.Maker later = () -> {
            MusicChairs x = Twin.over();
            x.round();
            x.round();
            return x;
        };
        asked("over for long", later, x -> x.winner(1), 4);
    }

    private static void winnersRefused() {
        Twin.refusedAll("winner", Twin::midway, MusicChairs::winner, -1, 2, -1);
        Twin.refusedOf("winner", MusicChairs::new, MusicChairs::winner, -1, 0, 1, 2, -1);
    }

    /** Promise 18: the ROUND in which a GUEST who is IN is OUT; -2: in none. */
    private static void gones() {
        asked("0", Twin::midway, x -> x.gone(0), 1);
        asked("2", Twin::midway, x -> x.gone(2), -2);
        asked("over", Twin::over, x -> x.gone(2), -2);
        asked("over", Twin::chairless, x -> x.gone(0), -2);
        asked("in this round", () -> Due.at(Twin.THREE), x -> x.gone(1), 0);
        Twin.Maker six = () -> Due.at("party 24;chair 0;chair 1;chair 2;chair 3;chair 4;chair 5;guest 5 0 1;guest 6 0 1");
        asked("six chairs", six, x -> x.gone(1), 5);
        asked("six chairs", six, x -> x.gone(0), -2);
    }

    private static void gonesRefused() {
        Twin.refusedAll("gone", Twin::midway, MusicChairs::gone, -1, 1, 3, -1);
        Twin.refusedOf("gone", Twin::over, MusicChairs::gone, -1, 0, 1, 3, -1);
        Twin.refusedOf("gone", Twin::full, MusicChairs::gone, -1, 7, -1);
        Twin.refusedOf("gone", MusicChairs::new, MusicChairs::gone, -1, 0, -1);
    }

    /** Promise 19. 0 is as near as 2 or nearer behind 4, 5 and 6 beats, and all is again behind 10. */
    private static void safes() {
        asked("0, how many", Twin::midway, x -> x.safe(0, 0), 18);
        asked("0, the least", Twin::midway, x -> x.safe(0, 1), 4);
        asked("2, how many", Twin::midway, x -> x.safe(2, 0), 42);
        asked("2, the least", Twin::midway, x -> x.safe(2, 1), 1);
        Twin.Maker never = () -> Due.at("party 9;chair 0;guest 0 0 1;guest 2 3 1");
        asked("there is none", never, x -> x.safe(1, 0), 0);
        asked("there is none", never, x -> x.safe(1, 1), -2);
        asked("all", never, x -> x.safe(0, 0), 60);
    }

    /** Numbers 1 to 60: guest 0 sits when they come upon the chair and not else; 1 is 1 from it. */
    private static void safeBeats() {
        int[][] cases = {{20, 0, 3, 20}, {20, 1, 3, 19}, {20, 19, 3, 1}, {21, 2, 2, 19}, {24, 0, 2, 24}, {4, 0, 15, 4},
            {7, 3, 9, 4}, {8, 4, 8, 4}, {8, 3, 7, 5}, {7, 4, 9, 3}};
        for (int[] one : cases) {
            Twin.Maker maker = () -> Due.at("party " + one[0] + ";chair 0;guest " + one[1] + " 1 1;guest 1 0 9");
            asked("how many", maker, x -> x.safe(0, 0), one[2]);
            asked("the least", maker, x -> x.safe(0, 1), one[3]);
            asked("the others", maker, x -> x.safe(1, 0), 60 - one[2]);
        }
    }

    private static void safesRefused() {
        for (int what = 0; what < 2; what++) {
            int w = what;
            Twin.refusedAll("safe", Twin::midway, (x, g) -> x.safe(g, w), -1, 1, 3, -1);
            Twin.refusedOf("safe, when over", Twin::over, (x, g) -> x.safe(g, w), -1, 0, 1, 2, 3, -1);
            Twin.refusedOf("safe, when over", Twin::chairless, (x, g) -> x.safe(g, w), -1, 0, 1, 2, -1);
            Twin.refusedOf("safe", MusicChairs::new, (x, g) -> x.safe(g, w), -1, 0, -1);
        }
        Twin.refusedAll("what of safe", Twin::midway, (x, what) -> x.safe(0, what), -1, 2, -1);
    }

    /** Promise 20, ROW for n ROUNDS (1 to 4). By 4, 5 and 6 beats guest 0 stays, and it is over then. */
    private static void rows() {
        int many = 3;
        int others = 3;
        for (int n = 1; n <= 4; n++) {
            int rounds = n;
            asked("0, how many", Twin::midway, x -> x.row(0, rounds, 0), many);
            asked("2, how many", Twin::midway, x -> x.row(2, rounds, 0), others);
            for (int k = 1; k <= n; k++) {
                int which = k;
                asked("0, the first one", Twin::midway, x -> x.row(0, rounds, which), which == 1 ? 4 : 1);
                asked("2, the first one", Twin::midway, x -> x.row(2, rounds, which), 1);
            }
            many *= 6;
            others *= 6;
        }
        // both sit for five rounds, whatever the beats
        Twin.Maker six = () -> Due.at("party 24;chair 0;chair 1;chair 2;chair 3;chair 4;chair 5;guest 5 0 1;guest 6 0 1");
        int all = 1;
        for (int n = 1; n <= 4; n++) {
            int rounds = n;
            all *= 6;
            asked("all rows", six, x -> x.row(0, rounds, 0), all);
            asked("all rows", six, x -> x.row(1, rounds, 0), all);
            asked("the first one", six, x -> x.row(1, rounds, rounds), 1);
        }
        asked("over", Twin::over, x -> x.row(2, 1, 0), 6);
        asked("over", Twin::over, x -> x.row(2, 4, 0), 1296);
        asked("over", Twin::over, x -> x.row(2, 4, 4), 1);
        asked("over", Twin::chairless, x -> x.row(1, 3, 0), 216);
    }

    /** 1 to 6 BEATS: guest 0 sits when they come upon the chair and not else; 1 is 1 from it. */
    private static void rowBeats() {
        for (int beats = 0; beats <= 7; beats++) {
            int place = (24 - beats) % 24;
            boolean can = beats >= 1 && beats <= 6;
            int due = can ? beats : -2;
            Twin.Maker maker = () -> Due.at("party 24;chair 0;guest " + place + " 1 1;guest 1 0 9");
            asked("how many", maker, x -> x.row(0, 1, 0), can ? 1 : 0);
            asked("the first one", maker, x -> x.row(0, 1, 1), due);
            asked("how many of four", maker, x -> x.row(0, 4, 0), can ? 216 : 0);
            asked("the first of four", maker, x -> x.row(0, 4, 1), due);
            asked("the last of four", maker, x -> x.row(0, 4, 4), can ? 1 : -2);
            asked("the others", maker, x -> x.row(1, 1, 0), can ? 5 : 6);
        }
    }

    /** NONE: there are not so many ROUNDS; else -2: there is no such row. */
    private static void rowsOfNoRounds() {
        Twin.Maker never = () -> Due.at("party 9;chair 0;guest 0 0 1;guest 2 3 1");
        for (int n = 1; n <= 4; n++) {
            int rounds = n;
            for (int k = 1; k <= 4; k++) {
                int which = k;
                asked("no such row", never, x -> x.row(1, rounds, which), which > rounds ? -1 : -2);
                asked("rows", Twin::over, x -> x.row(2, rounds, which), which > rounds ? -1 : 1);
            }
        }
    }

    private static void rowsRefused() {
        for (int what = 0; what <= 4; what++) {
            int w = what;
            Twin.refusedAll("row", Twin::midway, (x, g) -> x.row(g, 4, w), -3, 1, 3, -1);
            Twin.refusedAll("rounds of a row", Twin::midway, (x, n) -> x.row(0, n, w), -3, 0, 5, -1);
            Twin.refused("no party", MusicChairs::new, x -> x.row(0, 1, w), -3);
        }
        Twin.refusedAll("what of a row", Twin::midway, (x, what) -> x.row(0, 1, what), -3, 5, -1);
        Twin.refusedAll("what of a row", Twin::midway, (x, what) -> x.row(0, 4, what), -3, 5, -1);
    }

    /** Promise 21, WITHIN t (0 to 999). */
    private static void withins() {
        Twin.Maker maker = () -> Due.at("party 24;chair 0;chair 8;guest 1 0 1;guest 10 0 1;guest 20 0 1");
        int[][] due = {{0, 0}, {9, 0}, {10, 1}, {19, 1}, {20, 2}, {998, 2}, {999, 2}};
        for (int[] one : due) {
            asked("within " + one[0], maker, x -> x.within(one[0]), one[1]);
        }
        asked("on the chair", Twin::midway, x -> x.within(0), 1);
        asked("one chair is there", Twin::midway, x -> x.within(999), 1);
        asked("no chair is there", Twin::over, x -> x.within(999), 0);
        asked("no chair was told", Twin::chairless, x -> x.within(999), 0);
        asked("no guests", () -> Due.at("party 4;chair 0"), x -> x.within(999), 0);
        asked("one guest, two chairs", () -> Due.at("party 4;chair 0;chair 1;guest 1 0 1"), x -> x.within(999), 1);
        // both are nearest to chair 0; each on a chair of their own
        asked("own chairs", () -> Due.at("party 24;chair 0;chair 8;guest 0 0 1;guest 0 0 1"), x -> x.within(79), 1);
        asked("own chairs", () -> Due.at("party 24;chair 0;chair 8;guest 0 0 1;guest 0 0 1"), x -> x.within(80), 2);
    }

    private static void withinsRefused() {
        Twin.refusedOf("within", Twin::midway, MusicChairs::within, -1, -1, 1000, 1001, Integer.MAX_VALUE,
            Integer.MIN_VALUE);
        Twin.refusedOf("within", MusicChairs::new, MusicChairs::within, -1, 0, 999, 1000, -1);
    }

    /** Promise 22: as many as there can be, each on a CHAIR of their own; NONE: none, or they are OUT. */
    private static void kinds() {
        asked("how much", Twin::midway, x -> x.kind(-1), 0);
        asked("0 has none", Twin::midway, x -> x.kind(0), -1);
        asked("1 is out", Twin::midway, x -> x.kind(1), -1);
        asked("2", Twin::midway, x -> x.kind(2), 0);
        asked("no chair is there", Twin::over, x -> x.kind(-1), 0);
        asked("no chair is there", Twin::over, x -> x.kind(2), -1);
        asked("no chair was told", Twin::chairless, x -> x.kind(-1), 0);
        asked("no chair was told", Twin::chairless, x -> x.kind(1), -1);
        asked("no guests", () -> Due.at("party 4;chair 0"), x -> x.kind(-1), 0);
        // nobody may stay away to make it less
        asked("all must sit", () -> Due.at("party 24;chair 0;chair 12;guest 0 0 1;guest 1 0 1"), x -> x.kind(-1), 110);
        asked("all chairs must be taken", () -> Due.at("party 24;chair 0;chair 12;guest 0 0 1;guest 0 0 1;guest 0 0 1"),
            x -> x.kind(-1), 120);
    }

    /** Of several the first: GUEST 0 first, least CHAIRS first, none behind all CHAIRS. */
    private static void kindOfSeveral() {
        Twin.Maker two = () -> Due.at("party 8;chair 4;chair 0;guest 2 0 1;guest 6 0 1;guest 2 0 1;guest 6 0 1");
        int[] due = {40, 0, 1, -1, -1};
        for (int what = -1; what < 4; what++) {
            int w = what;
            asked("kind(" + what + ")", two, x -> x.kind(w), due[what + 1]);
        }
        Twin.Maker one = () -> Due.at("party 8;chair 4;chair 0;guest 3 0 1;guest 6 0 1;guest 2 0 1");
        // 0 takes chair 0 for 10; 1 and 2 are 20 from chair 1 both
        int[] less = {30, 0, 1, -1};
        for (int what = -1; what < 3; what++) {
            int w = what;
            asked("kind(" + what + ")", one, x -> x.kind(w), less[what + 1]);
        }
        // 0 + 10 + 50, or 10 + 0 + 50
        Twin.Maker way = () -> Due.at("party 24;chair 4;chair 3;chair 12;guest 4 0 1;guest 4 0 1;guest 7 0 1");
        int[] best = {60, 0, 1, 2};
        for (int what = -1; what < 3; what++) {
            int w = what;
            asked("kind(" + what + ")", way, x -> x.kind(w), best[what + 1]);
        }
        Twin.Maker turned = () -> Due.at("party 24;chair 20;chair 12;chair 4;guest 11 0 1;guest 3 0 1;guest 22 0 1");
        int[] back = {40, 1, 2, 0};
        for (int what = -1; what < 3; what++) {
            int w = what;
            asked("kind(" + what + ")", turned, x -> x.kind(w), back[what + 1]);
        }
        Twin.Maker near = () -> Due.at("party 9;chair 1;chair 8;chair 0;guest 0 0 1;guest 4 0 1");
        int[] ends = {30, 2, 0};
        for (int what = -1; what < 2; what++) {
            int w = what;
            asked("kind(" + what + ")", near, x -> x.kind(w), ends[what + 1]);
        }
    }

    /** A CHAIR that is not THERE seats nobody, though one stands at its PLACE; nor does one who is OUT take a CHAIR. */
    private static void chairsThatAreAway() {
        Twin.Maker away = () -> {
            MusicChairs x = Due.at("party 24;chair 0;chair 12;chair 6;guest 0 0 1;guest 12 0 1");
            x.play(1);
            return x;
        };
        Due.is("chairs 0 and 2 are there", away.make().count(7), 5);
        int[] due = {60, 0, 2};
        for (int what = -1; what < 2; what++) {
            int w = what;
            asked("kind(" + what + ")", away, x -> x.kind(w), due[what + 1]);
        }
        asked("longest", away, MusicChairs::longest, 60);
        asked("within 59", away, x -> x.within(59), 1);
        asked("within 60", away, x -> x.within(60), 2);
        // 2 is out at the place of chair 1, 3 at the place of chair 2; 0 is there too, 1 is tired at 0
        Twin.Maker out = () -> {
            MusicChairs x = Due.at("party 24;chair 0;chair 12;chair 6" + ";guest 6 0 1".repeat(4));
            x.play(1);
            x.play(1);
            x.bring(1);
            return x;
        };
        Due.is("0 and 1 are in", out.make().count(6), 3);
        Due.is("chairs 1 and 2 are there", out.make().count(7), 6);
        int[] less = {126, 1, 2, -1, -1};
        for (int what = -1; what < 4; what++) {
            int w = what;
            asked("kind(" + what + ")", out, x -> x.kind(w), less[what + 1]);
        }
        asked("longest", out, MusicChairs::longest, 66);
        asked("within 0", out, x -> x.within(0), 1);
        asked("within 65", out, x -> x.within(65), 1);
        asked("within 66", out, x -> x.within(66), 2);
        // 0 is out at the place of chair 0, 1 is in on chair 1
        Twin.Maker first = () -> {
            MusicChairs x = Due.at("party 24;chair 0;chair 12;guest 1 0 1;guest 12 0 1");
            x.play(1);
            x.play(1);
            x.bring(0);
            x.bring(1);
            return x;
        };
        Due.is("1 is in", first.make().count(6), 2);
        Due.is("0 is on chair 0", first.make().time(0, 0), 0);
        asked("0 is out", first, x -> x.kind(0), -1);
        asked("1", first, x -> x.kind(1), 1);
        asked("how much", first, x -> x.kind(-1), 0);
        asked("within", first, x -> x.within(999), 1);
    }

    private static void kindsRefused() {
        Twin.refusedAll("kind", Twin::midway, MusicChairs::kind, -2, 3, 4);
        Twin.refusedAll("kind", Twin::full, MusicChairs::kind, -2, 7);
        Twin.refusedAll("kind", MusicChairs::new, MusicChairs::kind, -2, -1, 0);
        Twin.refused("no guests", () -> Due.at("party 4;chair 0"), x -> x.kind(0), -2);
    }

    /** Promise 23: 0, if nobody is seated; NONE without a PARTY. */
    private static void longests() {
        Twin.refused("no party", MusicChairs::new, MusicChairs::longest, -1);
        asked("no chair is there", Twin::over, MusicChairs::longest, 0);
        asked("no chair was told", Twin::chairless, MusicChairs::longest, 0);
        asked("no guests", () -> Due.at("party 4;chair 0"), MusicChairs::longest, 0);
        asked("nothing", () -> Due.at("party 4"), MusicChairs::longest, 0);
        asked("2 is on the chair", Twin::midway, MusicChairs::longest, 0);
        asked("one far away", () -> Due.at("party 24;chair 0;guest 12 0 1"), MusicChairs::longest, 120);
        // all chairs must be taken; together 0 + 50 is as good as 30 + 20, but not the longest of these
        asked("30", () -> Due.at("party 24;chair 0;chair 3;guest 0 0 1;guest 22 0 1"), MusicChairs::longest, 30);
    }

    /** Promise 24: the least number 0 to 60; -2: behind none of these. */
    private static void meets() {
        asked("2b = 5 never", Twin::midway, x -> x.meet(0, 2), -2);
        asked("now", () -> Due.at("party 24;guest 7 1 1;guest 7 2 1"), x -> x.meet(0, 1), 0);
        asked("alike for ever", () -> Due.at("party 24;guest 7 1 1;guest 7 1 1"), x -> x.meet(1, 0), 0);
        asked("apart for ever", () -> Due.at("party 24;guest 7 1 1;guest 8 1 1"), x -> x.meet(1, 0), -2);
        asked("one", () -> Due.at("party 24;guest 23 1 1;guest 0 0 1"), x -> x.meet(0, 1), 1);
        asked("the most there can be", () -> Due.at("party 24;guest 1 1 1;guest 0 0 1"), x -> x.meet(0, 1), 23);
        asked("the most there can be", () -> Due.at("party 24;guest 0 0 1;guest 19 5 1"), x -> x.meet(0, 1), 1);
        asked("over", Twin::chairless, x -> x.meet(0, 1), -2);
    }

    private static void meetsRefused() {
        Twin.refusedAll("the first to meet", Twin::midway, (x, g) -> x.meet(g, 0), -1, 0, 1, 3, -1);
        Twin.refusedAll("the second to meet", Twin::midway, (x, g) -> x.meet(2, g), -1, 2, 1, 3, -1);
        Twin.refusedAll("both to meet", Twin::midway, (x, g) -> x.meet(g, g), -1, 0, 1, 2, 3, -1);
        Twin.refusedOf("the second to meet", Twin::over, (x, g) -> x.meet(2, g), -1, 0, 1, 2, 3, -1);
        Twin.refused("no party", MusicChairs::new, x -> x.meet(0, 1), -1);
    }

    /** Promise 25: 1 or more; of all who are IN. */
    private static void tours() {
        Twin.refused("no party", MusicChairs::new, MusicChairs::tour, -1);
        asked("nobody is in", () -> Due.at("party 24"), MusicChairs::tour, 1);
        asked("nobody moves", () -> Due.at("party 24;guest 0 0 1"), MusicChairs::tour, 1);
        asked("a full turn each beat", () -> Due.at("party 4;guest 0 4 1"), MusicChairs::tour, 1);
        asked("the most there can be", () -> Due.at("party 24;guest 0 5 1"), MusicChairs::tour, 24);
        asked("3 and 2 of 24", () -> Due.at("party 24;guest 0 3 1;guest 0 2 1"), MusicChairs::tour, 24);
        asked("4 and 2 of 24", () -> Due.at("party 24;guest 0 4 1;guest 0 2 1"), MusicChairs::tour, 12);
        // 4 of guest 1 would do in 5, and 1 and 3 need all 10
        asked("who is in", Twin::midway, MusicChairs::tour, 10);
        Twin.Maker still = () -> {
            MusicChairs x = Twin.midway();
            x.pace(0, 0);
            x.pace(2, 5);
            return x;
        };
        asked("who is out does not matter", still, MusicChairs::tour, 2);
    }

    /** Promise 26, AWAY for n ROUNDS (1 to 20). */
    private static void aways() {
        for (int n : new int[] {1, 2, 20}) {
            asked("0 sits never: none", Twin::midway, x -> x.away(0, n, 0), -1);
            asked("0 sits never", Twin::midway, x -> x.away(0, n, 1), 0);
            asked("2 sits once: none", Twin::midway, x -> x.away(2, n, 0), -1);
            asked("2 sits once", Twin::midway, x -> x.away(2, n, 1), 1);
            asked("over: none", Twin::over, x -> x.away(2, n, 0), -1);
            asked("over: never", Twin::over, x -> x.away(2, n, 1), 0);
        }
        Twin.Maker six = () -> Due.at("party 24;chair 0;chair 1;chair 2;chair 3;chair 4;chair 5;guest 5 0 1;guest 6 0 1");
        for (int n = 1; n <= 20; n++) {
            int rounds = n;
            asked("six chairs", six, x -> x.away(0, rounds, 1), Math.min(rounds, 6));
            asked("six chairs", six, x -> x.away(1, rounds, 1), Math.min(rounds, 5));
        }
    }

    /** Of several none, then the least. */
    private static void awayOfSeveral() {
        // with all chairs 1 is caught by 0 in the second round; without any of them one is out in the first
        Twin.Maker all = () -> Due.at("party 6;chair 4;chair 0;chair 2;guest 5 0 1;guest 3 1 2;guest 3 1 1");
        asked("0, 1 and 2 are as good", all, x -> x.away(1, 2, 0), 0);
        asked("twice", all, x -> x.away(1, 2, 1), 2);
        Twin.Maker some = () -> Due.at("party 7;chair 4;chair 1;chair 3;guest 3 1 2;guest 5 1 1;guest 1 0 2");
        asked("1 and 2 are as good", some, x -> x.away(0, 2, 0), 1);
        asked("twice", some, x -> x.away(0, 2, 1), 2);
        // chair 1 is away; of 0, 2 and 3 the last one alone brings 1 to sit twice
        Twin.Maker last = () -> {
            MusicChairs x = Due.at("party 6;chair 4;chair 3;chair 2;chair 0;guest 1 1 1;guest 4 1 1;guest 1 1 1");
            x.play(1);
            return x;
        };
        Due.is("chair 1 is away", last.make().count(7), 13);
        asked("the last one", last, x -> x.away(1, 2, 0), 3);
        asked("twice", last, x -> x.away(1, 2, 1), 2);
        Twin.Maker two = () -> Due.by("party 5;chair 2;chair 0;chair 4;guest 0 1 3;guest 2 0 1;guest 3 1 1", "play 8");
        asked("which", two, x -> x.away(1, 2, 0), 2);
        asked("how often", two, x -> x.away(1, 2, 1), 2);
        asked("for one round none is as good", two, x -> x.away(1, 1, 0), -1);
        asked("all chairs stay", two, x -> x.count(7), 7);
    }

    private static void awaysRefused() {
        for (int what = 0; what < 2; what++) {
            int w = what;
            Twin.refusedAll("away", Twin::midway, (x, g) -> x.away(g, 20, w), -2, 1, 3, -1);
            Twin.refusedAll("rounds of away", Twin::midway, (x, n) -> x.away(0, n, w), -2, 0, 21, -1);
            Twin.refused("no party", MusicChairs::new, x -> x.away(0, 1, w), -2);
        }
        Twin.refusedAll("what of away", Twin::midway, (x, what) -> x.away(0, 1, what), -2, 2, -1);
    }

    /** Promise 27, BEGIN for n ROUNDS (1 to 20). */
    private static void begins() {
        for (int n : new int[] {1, 2, 20}) {
            asked("0 had best be at 0", Twin::midway, x -> x.begin(0, n, 0), 0);
            asked("0 sits once", Twin::midway, x -> x.begin(0, n, 1), 1);
            asked("2 stays", Twin::midway, x -> x.begin(2, n, 0), 0);
            asked("over: where they are", Twin::chairless, x -> x.begin(1, n, 0), 2);
            asked("over: never", Twin::chairless, x -> x.begin(1, n, 1), 0);
        }
        Twin.Maker six = () -> Due.at("party 24;chair 0;chair 1;chair 2;chair 3;chair 4;chair 5;guest 5 0 1;guest 23 0 1");
        for (int n = 1; n <= 20; n++) {
            int rounds = n;
            asked("six chairs", six, x -> x.begin(0, rounds, 1), Math.min(rounds, 6));
        }
    }

    /** Of several where they are, then the least; the first and the last PLACE among them. */
    private static void beginOfSeveral() {
        Twin.Maker all = () -> Due.at("party 9;chair 3;chair 0;guest 5 0 1;guest 7 0 1");
        asked("all are alike: where they are", all, x -> x.begin(0, 1, 0), 5);
        asked("all are alike: where they are", all, x -> x.begin(1, 1, 0), 7);
        // 0 sits at 2 from the chair or nearer; 1 stays 2 from it
        asked("the least of five", () -> Due.at("party 12;chair 3;guest 8 0 1;guest 5 0 1"), x -> x.begin(0, 1, 0), 1);
        asked("place 0", () -> Due.at("party 12;chair 0;guest 6 0 1;guest 1 0 9"), x -> x.begin(0, 1, 0), 0);
        asked("the last place", () -> Due.at("party 12;chair 11;guest 6 0 1;guest 0 0 9"), x -> x.begin(0, 1, 0), 11);
        asked("none would do", () -> Due.at("party 12;chair 3;guest 3 0 1;guest 8 0 1"), x -> x.begin(1, 1, 0), 8);
    }

    private static void beginsRefused() {
        for (int what = 0; what < 2; what++) {
            int w = what;
            Twin.refusedAll("begin", Twin::midway, (x, g) -> x.begin(g, 20, w), -1, 1, 3, -1);
            Twin.refusedAll("rounds of begin", Twin::midway, (x, n) -> x.begin(0, n, w), -1, 0, 21, -1);
            Twin.refused("no party", MusicChairs::new, x -> x.begin(0, 1, w), -1);
        }
        Twin.refusedAll("what of begin", Twin::midway, (x, what) -> x.begin(0, 1, what), -1, 2, -1);
    }

    /** Promise 30: by steps 0 and 5 guest 2 is on the chair behind two beats, whatever 0 does; else 0 could come first. */
    private static void rests() {
        for (int n : new int[] {1, 2, 20}) {
            asked("how many", Twin::midway, x -> x.rests(0, 2, n, 0), 12);
            asked("the first", Twin::midway, x -> x.rests(0, 2, n, 1), 0);
            asked("the second", Twin::midway, x -> x.rests(0, 2, n, 2), 0);
            asked("turned round", Twin::midway, x -> x.rests(2, 0, n, 0), 12);
            asked("over: all", Twin::chairless, x -> x.rests(0, 1, n, 0), 36);
            asked("over: the first", Twin::chairless, x -> x.rests(0, 1, n, 1), 0);
        }
        // by one beat 1 comes upon the chair by step 5 alone, and is never nearer by another one, for 0 is quick
        Twin.Maker five = () -> Due.by("party 24;chair 0;guest 1 0 9;guest 19 0 1", "play 1");
        asked("how many", five, x -> x.rests(0, 1, 1, 0), 6);
        asked("the first", five, x -> x.rests(0, 1, 1, 1), 0);
        asked("the second", five, x -> x.rests(0, 1, 1, 2), 5);
        asked("turned round", five, x -> x.rests(1, 0, 1, 1), 5);
        asked("turned round", five, x -> x.rests(1, 0, 1, 2), 0);
        // step 0 keeps 0 on the chair, whatever 1 does; by any other one 1 could take it
        Twin.Maker stay = () -> Due.at("party 7;chair 0;guest 0 3 1;guest 3 0 1");
        asked("how many", stay, x -> x.rests(0, 1, 1, 0), 6);
        asked("turned round", stay, x -> x.rests(1, 0, 1, 0), 6);
        asked("step 0", stay, x -> x.rests(0, 1, 1, 1), 0);
        asked("step 0", stay, x -> x.rests(1, 0, 1, 2), 0);
    }

    /** -2: there is none. */
    private static void noRests() {
        Twin.Maker none = () -> Due.at("party 6;chair 2;chair 0;guest 5 1 3;guest 2 0 3");
        asked("for one round all are alike", none, x -> x.rests(0, 1, 1, 0), 36);
        asked("how many", none, x -> x.rests(0, 1, 2, 0), 0);
        asked("the first", none, x -> x.rests(0, 1, 2, 1), -2);
        asked("the second", none, x -> x.rests(0, 1, 2, 2), -2);
    }

    private static void restsRefused() {
        for (int what = 0; what < 3; what++) {
            int w = what;
            Twin.refusedAll("the first of rests", Twin::midway, (x, g) -> x.rests(g, 0, 20, w), -1, 0, 1, 3, -1);
            Twin.refusedAll("the second of rests", Twin::midway, (x, g) -> x.rests(2, g, 20, w), -1, 2, 1, 3, -1);
            Twin.refusedAll("rounds of rests", Twin::midway, (x, n) -> x.rests(0, 2, n, w), -1, 0, 21, -1);
            Twin.refused("no party", MusicChairs::new, x -> x.rests(0, 1, 1, w), -1);
        }
        Twin.refusedAll("what of rests", Twin::midway, (x, what) -> x.rests(0, 2, 1, what), -1, 3, -1);
    }

    /** ROUNDS go on by the RULE IN FORCE: by four beats 1 is on the chair, without a rule 0 is nearer. */
    private static void byTheRuleInForce() {
        String two = "party 6;chair 0;guest 1 0 1;guest 2 1 1";
        Twin.Maker none = () -> Due.at(two);
        Twin.Maker four = () -> Due.by(two, "play 4");
        answers("in ahead", none, four, x -> x.ahead(0, 1, 1), 1, 2);
        answers("place ahead", none, four, x -> x.ahead(1, 1, 0), 4, 0);
        answers("winner", none, four, x -> x.winner(0), 0, 1);
        answers("gone of 0", none, four, x -> x.gone(0), -2, 0);
        answers("gone of 1", none, four, x -> x.gone(1), 0, -2);
        answers("begin of 0", none, four, x -> x.begin(0, 1, 0), 1, 0);
        answers("begin of 1", none, four, x -> x.begin(1, 1, 0), 4, 2);
        answers("rests", none, four, x -> x.rests(0, 1, 1, 2), 2, 1);
        String three = "party 6;chair 4;chair 5;chair 1;guest 5 1 1;guest 2 1 1;guest 5 0 1";
        answers("away", () -> Due.at(three), () -> Due.by(three, "play 1"), x -> x.away(2, 2, 0), 2, 0);
        // told beats are in place of what the rule says
        answers("safe", none, four, x -> x.safe(1, 1), 4, 4);
        answers("row", none, four, x -> x.row(1, 1, 1), 4, 4);
    }

    private static void answers(String name, Twin.Maker none, Twin.Maker ruled, Twin.Call call, int due, int dueByRule) {
        asked(name + " without a rule", none, call, due);
        asked(name + " by a rule", ruled, call, dueByRule);
    }

    /** Not as the text told it: by the step that is set 1 comes upon the chair behind eight beats. */
    private static void fromNowOn() {
        Twin.Maker set = () -> {
            MusicChairs x = Due.at("party 6;chair 0;guest 1 0 1;guest 2 1 1");
            x.pace(1, 2);
            return x;
        };
        asked("ahead", set, x -> x.ahead(0, 1, 1), 2);
        asked("winner", set, x -> x.winner(0), 1);
        asked("gone", set, x -> x.gone(0), 0);
        asked("gone", set, x -> x.gone(1), -2);
        asked("safe", set, x -> x.safe(1, 1), 2);
        asked("row", set, x -> x.row(1, 1, 1), 2);
        asked("away", set, x -> x.away(1, 1, 1), 1);
        asked("begin", set, x -> x.begin(1, 1, 0), 2);
        asked("meet", set, x -> x.meet(0, 1), -2);
        asked("tour", set, MusicChairs::tour, 3);
        asked("tunes of one beat", set, x -> x.tunes(1, 1, 0), 1);
    }

    /** By what is asked nothing changes: not even what is asked next. */
    private static void againAndAgain() {
        Twin.Maker[] makers = {Twin::midway, () -> Due.at(Twin.THREE), Twin::over, Twin::chairless,
            () -> Due.at("party 5;chair 2;chair 0;chair 4;guest 0 1 3;guest 2 0 1;guest 3 1 1")};
        for (Twin.Maker maker : makers) {
            Twin.askedInAnyOrder(maker, x -> x.ahead(0, 1, 0), x -> x.winner(0), x -> x.gone(0), x -> x.gone(1),
                x -> x.safe(0, 0), x -> x.safe(1, 1), x -> x.row(0, 1, 1), x -> x.row(1, 2, 1), x -> x.row(2, 1, 1),
                x -> x.row(2, 4, 0), x -> x.within(999), x -> x.within(0), x -> x.kind(-1), x -> x.within(4),
                x -> x.kind(2), x -> x.longest(), x -> x.meet(0, 1), x -> x.tour(), x -> x.away(1, 2, 0),
                x -> x.away(0, 1, 0), x -> x.away(1, 2, 1), x -> x.begin(1, 1, 0), x -> x.begin(0, 20, 1),
                x -> x.rests(0, 1, 2, 0), x -> x.rests(0, 2, 1, 1), x -> x.rests(0, 2, 1, 2), x -> x.steps(0),
                x -> x.quicks(1), x -> x.ruled(1), x -> x.look(0, 1), x -> x.tunes(9, 9, 0), x -> x.pence(99, 0));
        }
    }
}
