/** Promises 16 to 27 and 30: what is asked of rounds to come and of seats as all are now. */
public final class AskTest {
    private static final String THREE = "party 10;chair 0;chair 5;guest 2 1 5;guest 4 0 2;guest 9 3 9";
    /** 0 stays 10 from the chair; 1 is on it behind 4, 10, .. beats, else as far away or further. */
    private static final String TWO = "party 6;chair 0;guest 1 0 1;guest 2 1 1";

    public static void main(String[] args) {
        aheads();
        winners();
        gones();
        safes();
        rows();
        rowsPastTheEnd();
        seats();
        meets();
        tours();
        aways();
        begins();
        rests();
        nothingChanges();
        Due.end("AskTest");
    }

    private static void aheads() {
        MusicChairs x = Due.at(THREE);
        Due.is("now", x.ahead(2, 0, 0), 9);
        Due.is("one", x.ahead(0, 1, 0), 0);
        Due.is("two", x.ahead(0, 2, 0), 8);
        Due.is("out", x.ahead(1, 2, 0), 4);
        Due.is("on", x.ahead(2, 40, 0), 0);
        Due.is("in", x.ahead(0, 0, 1), 7);
        Due.is("in", x.ahead(0, 1, 1), 5);
        Due.is("in", x.ahead(-7, 40, 1), 4);
        Due.is("chairs", x.ahead(99, 1, 2), 1);
        Due.is("chairs", x.ahead(99, 2, 2), 0);
        Due.is("no n", x.ahead(0, 41, 0), -1);
        Due.is("no n", x.ahead(0, -1, 0), -1);
        Due.is("no what", x.ahead(0, 1, 3), -1);
        Due.is("no what", x.ahead(0, 1, -1), -1);
        Due.is("no guest", x.ahead(3, 1, 0), -1);
        Due.is("no guest", x.ahead(-1, 1, 0), -1);
        Due.is("no party", new MusicChairs().ahead(0, 1, 2), -1);
        MusicChairs y = Due.by(TWO, "play 4");
        Due.is("by the rule in force", y.ahead(0, 1, 1), 2);
        y.force(-1);
        Due.is("by none", y.ahead(0, 1, 1), 1);
    }

    private static void winners() {
        MusicChairs x = Due.at(THREE);
        Due.is("who", x.winner(0), 2);
        Due.is("when", x.winner(1), 2);
        Due.is("no what", x.winner(2), -1);
        Due.is("no what", x.winner(-1), -1);
        x.round();
        x.round();
        x.round();
        Due.is("over now", x.winner(0), 2);
        Due.is("over now", x.winner(1), 3);
        Due.is("no party", new MusicChairs().winner(0), -1);
        MusicChairs y = Due.at("party 8;chair 0;chair 4;guest 0 0 1;guest 4 0 1");
        Due.is("two sit on two chairs", y.ahead(0, 1, 1), 3);
        Due.is("one is left, on the chair that was taken first", y.winner(0), 0);
        Due.is("when", y.winner(1), 2);
        Due.is("nobody", Due.at("party 4;chair 1").winner(0), -2);
        Due.is("at once", Due.at("party 4;chair 1").winner(1), 0);
        Due.is("two without a chair", Due.at("party 4;guest 1 1 1;guest 1 1 1").winner(0), -2);
        Due.is("one", Due.at("party 4;guest 1 1 1").winner(0), 0);
        Due.is("by a rule", Due.by(TWO, "play 4").winner(0), 1);
    }

    private static void gones() {
        MusicChairs x = Due.at(THREE);
        Due.is("0", x.gone(0), 1);
        Due.is("1", x.gone(1), 0);
        Due.is("2", x.gone(2), -2);
        Due.is("no guest", x.gone(3), -1);
        Due.is("no guest", x.gone(-1), -1);
        x.round();
        Due.is("still that round", x.gone(0), 1);
        Due.is("out by now", x.gone(1), -1);
        x.round();
        Due.is("over", x.gone(2), -2);
        Due.is("by a rule", Due.by(TWO, "play 4").gone(0), 0);
    }

    private static void safes() {
        MusicChairs x = Due.at(TWO);
        Due.is("0", x.safe(0, 0), 50);
        Due.is("0", x.safe(0, 1), 1);
        Due.is("1", x.safe(1, 0), 10);
        Due.is("1", x.safe(1, 1), 4);
        Due.is("no what", x.safe(0, 2), -1);
        Due.is("no what", x.safe(0, -1), -1);
        Due.is("no guest", x.safe(2, 0), -1);
        Due.is("no guest", x.safe(-1, 0), -1);
        MusicChairs y = Due.at("party 6;chair 0;guest 0 0 1;guest 2 1 1");
        Due.is("never", y.safe(1, 0), 0);
        Due.is("never", y.safe(1, 1), -2);
        Due.is("always", y.safe(0, 0), 60);
        x.round();
        Due.is("over", x.safe(0, 0), -1);
        MusicChairs z = Due.at(THREE);
        z.round();
        Due.is("out", z.safe(1, 0), -1);
        Due.is("in", z.safe(2, 1) > 0 ? 1 : 0, 1);
    }

    private static void rows() {
        MusicChairs x = Due.at(TWO);
        Due.is("0 for 1", x.row(0, 1, 0), 5);
        Due.is("0 for 1, the first", x.row(0, 1, 1), 1);
        Due.is("1 for 1", x.row(1, 1, 0), 1);
        Due.is("1 for 1", x.row(1, 1, 1), 4);
        Due.is("not so many rounds", x.row(1, 1, 2), -1);
        Due.is("not so many rounds", x.row(1, 3, 4), -1);
        Due.is("no n", x.row(1, 0, 0), -3);
        Due.is("no n", x.row(1, 5, 0), -3);
        Due.is("no what", x.row(1, 1, 5), -3);
        Due.is("no what", x.row(1, 1, -1), -3);
        Due.is("no guest", x.row(2, 1, 0), -3);
        Due.is("no guest", x.row(-1, 1, 0), -3);
        MusicChairs y = Due.at("party 6;chair 0;guest 0 0 1;guest 2 1 1");
        Due.is("never", y.row(1, 4, 0), 0);
        Due.is("never", y.row(1, 4, 4), -2);
        Due.is("never", y.row(1, 1, 1), -2);
        Due.is("fewer rounds ahead of no row", y.row(1, 1, 2), -1);
        Due.is("a rule does not matter", Due.by(TWO, "play 4").row(0, 1, 0), 5);
        // both sit in the first round; 1 stays on its chair, or goes to the other one
        MusicChairs z = Due.at("party 6;chair 0;chair 3;guest 0 0 1;guest 3 1 1");
        Due.is("0 is always there", z.row(0, 1, 0), 6);
        Due.is("1 too, in the first round", z.row(1, 1, 0), 6);
    }

    private static void rowsPastTheEnd() {
        MusicChairs x = Due.at(TWO);
        Due.is("0 for 4", x.row(0, 4, 0), 5 * 216);
        Due.is("1 for 2", x.row(1, 2, 0), 6);
        Due.is("1 for 4", x.row(1, 4, 0), 216);
        int[] due = {4, 1, 1, 1};
        for (int k = 0; k < 4; k++) {
            Due.is("first row", x.row(1, 4, k + 1), due[k]);
        }
        x.round();
        Due.is("over", x.row(0, 4, 0), 1296);
        Due.is("over", x.row(0, 4, 4), 1);
        Due.is("out", x.row(1, 1, 0), -3);
    }

    private static void seats() {
        MusicChairs x = Due.at("party 12;chair 0;chair 6;guest 1 0 1;guest 2 0 1;guest 5 0 1");
        Due.is("within 9", x.within(9), 0);
        Due.is("within 10", x.within(10), 2);
        Due.is("within 999", x.within(999), 2);
        Due.is("no time", x.within(1000), -1);
        Due.is("no time", x.within(-1), -1);
        Due.is("how much", x.kind(-1), 20);
        Due.is("0", x.kind(0), 0);
        Due.is("1", x.kind(1), -1);
        Due.is("2", x.kind(2), 1);
        Due.is("no guest", x.kind(3), -2);
        Due.is("no what", x.kind(-2), -2);
        Due.is("longest", x.longest(), 10);
        // 0 is 0 from chair 0 and 30 from chair 1; 1 is 20 and 50: 0 and 50 or 30 and 20
        MusicChairs y = Due.at("party 24;chair 0;chair 3;guest 0 0 1;guest 22 0 1");
        Due.is("how much", y.kind(-1), 50);
        Due.is("0", y.kind(0), 0);
        Due.is("1", y.kind(1), 1);
        Due.is("longest", y.longest(), 30);
        Due.is("both want chair 0", y.within(20), 1);
        Due.is("one gives way", y.within(30), 2);
        Due.is("within 0", y.within(0), 1);
        // the guest of less time goes to the other chair
        MusicChairs z = Due.at("party 12;chair 2;chair 0;guest 1 0 9;guest 3 0 1");
        Due.is("how much", z.kind(-1), 11);
        Due.is("0", z.kind(0), 1);
        Due.is("1", z.kind(1), 0);
        // all alike: the first guests, the least chairs
        MusicChairs t = Due.at("party 4;chair 0;chair 2;guest 1 0 1;guest 3 0 1;guest 1 0 1");
        Due.is("0", t.kind(0), 0);
        Due.is("1", t.kind(1), 1);
        Due.is("2", t.kind(2), -1);
        t.play(1);
        Due.is("one who is out has none", t.kind(2), -1);
        Due.is("one chair left, on which 0 sits", t.kind(-1), 0);
        Due.is("0", t.kind(0), 0);
        Due.is("1", t.kind(1), -1);
        Due.is("within", t.within(0), 1);
        Due.is("no party", new MusicChairs().within(0), -1);
        Due.is("no party", new MusicChairs().kind(-1), -2);
        Due.is("no party", new MusicChairs().longest(), -1);
        MusicChairs e = Due.at("party 4;guest 0 0 1");
        Due.is("no chairs", e.within(9) + e.kind(-1) + e.longest(), 0);
        Due.is("no chairs", e.kind(0), -1);
    }

    private static void meets() {
        MusicChairs x = Due.at("party 10;guest 0 3 1;guest 1 1 1;guest 4 1 1;guest 4 2 1;guest 3 3 1");
        Due.is("2b = 1", x.meet(0, 1), -2);
        Due.is("2b = 4", x.meet(0, 2), 2);
        Due.is("now", x.meet(2, 3), 0);
        Due.is("b = 4", x.meet(0, 3), 4);
        Due.is("likewise", x.meet(3, 0), 4);
        Due.is("as quick", x.meet(0, 4), -2);
        Due.is("oneself", x.meet(0, 0), -1);
        Due.is("no guest", x.meet(0, 5), -1);
        Due.is("no guest", x.meet(-1, 0), -1);
        MusicChairs y = Due.at("party 24;chair 0;guest 0 0 9;guest 1 1 1");
        Due.is("most", y.meet(0, 1), 23);
        y.play(1);
        Due.is("out", y.meet(0, 1), -1);
    }

    private static void tours() {
        Due.is("no party", new MusicChairs().tour(), -1);
        Due.is("nobody", Due.at("party 9").tour(), 1);
        Due.is("nobody moves", Due.at("party 9;guest 1 0 1").tour(), 1);
        Due.is("4 of 12", Due.at("party 12;guest 0 4 1").tour(), 3);
        Due.is("4 and 3 of 12", Due.at("party 12;guest 0 4 1;guest 5 3 1").tour(), 12);
        Due.is("4 and 2 of 12", Due.at("party 12;guest 0 4 1;guest 5 2 1").tour(), 6);
        Due.is("5 of 24", Due.at("party 24;guest 0 5 1").tour(), 24);
        Due.is("5 of 5", Due.at("party 5;guest 0 5 1").tour(), 1);
        MusicChairs x = Due.at("party 12;chair 0;guest 0 0 9;guest 1 1 1");
        Due.is("two", x.tour(), 12);
        x.play(1);
        Due.is("those who are out don't matter", x.tour(), 1);
    }

    private static void aways() {
        // with all chairs 1 is out in the second round, for 0 comes to their chair; without chair 2 the guest 2
        // is out in the first, and 1 sits on chair 0 twice
        MusicChairs x = Due.at("party 5;chair 2;chair 0;chair 4;guest 0 1 3;guest 2 0 1;guest 3 1 1");
        Due.is("which", x.away(1, 2, 0), 2);
        Due.is("how often", x.away(1, 2, 1), 2);
        Due.is("for one round none", x.away(1, 1, 0), -1);
        Due.is("for one round once", x.away(1, 1, 1), 1);
        Due.is("twenty", x.away(1, 20, 1), 2);
        Due.is("no n", x.away(1, 0, 0), -2);
        Due.is("no n", x.away(1, 21, 0), -2);
        Due.is("no what", x.away(1, 1, 2), -2);
        Due.is("no what", x.away(1, 1, -1), -2);
        Due.is("no guest", x.away(3, 1, 0), -2);
        Due.is("no guest", x.away(-1, 1, 0), -2);
        Due.is("all chairs stay", x.count(7), 7);
        MusicChairs first = Due.at("party 5;chair 4;chair 2;chair 0;guest 0 1 3;guest 2 0 1;guest 3 1 1");
        Due.is("told first, that is chair 0", first.away(1, 2, 0), 0);
        MusicChairs y = Due.at(TWO);
        Due.is("never: none", y.away(1, 3, 0), -1);
        Due.is("never: 0", y.away(1, 3, 1), 0);
        y.round();
        Due.is("out", y.away(1, 3, 0), -2);
        Due.is("over: none", y.away(0, 3, 0), -1);
        Due.is("over: 0", y.away(0, 3, 1), 0);
    }

    private static void begins() {
        MusicChairs x = Due.at(TWO);
        Due.is("1 must be on the chair behind 8 beats", x.begin(1, 1, 0), 4);
        Due.is("once", x.begin(1, 1, 1), 1);
        Due.is("where they are", x.begin(0, 1, 0), 1);
        Due.is("once", x.begin(0, 20, 1), 1);
        Due.is("no n", x.begin(0, 0, 0), -1);
        Due.is("no n", x.begin(0, 21, 0), -1);
        Due.is("no what", x.begin(0, 1, 2), -1);
        Due.is("no what", x.begin(0, 1, -1), -1);
        Due.is("no guest", x.begin(2, 1, 0), -1);
        Due.is("no guest", x.begin(-1, 1, 0), -1);
        MusicChairs y = Due.at("party 6;chair 0;guest 0 0 1;guest 2 1 1");
        Due.is("never: where they are", y.begin(1, 1, 0), 2);
        Due.is("never", y.begin(1, 1, 1), 0);
        // 1 stands still and 0 is 1 away: only on the chair is nearer; 3 of these would do for quick ones
        MusicChairs z = Due.at("party 6;chair 2;guest 3 0 1;guest 5 0 9");
        Due.is("where they are", z.begin(1, 1, 0), 5);
        MusicChairs w = Due.at("party 8;chair 2;guest 4 0 1;guest 6 0 1");
        Due.is("the least of 1, 2, 3", w.begin(1, 1, 0), 1);
        Due.is("place 0", Due.at("party 6;chair 2;guest 3 0 1;guest 4 1 1").begin(1, 1, 0), 0);
        x.round();
        Due.is("out", x.begin(1, 1, 0), -1);
        Due.is("over: where they are", x.begin(0, 1, 0), 0);
    }

    private static void rests() {
        // steps 2 and 5 bring 1 upon the chair: with these 0 can't help it; with others 0 has better ones
        MusicChairs x = Due.at(TWO);
        Due.is("how many", x.rests(0, 1, 1, 0), 12);
        Due.is("first", x.rests(0, 1, 1, 1), 0);
        Due.is("second", x.rests(0, 1, 1, 2), 2);
        Due.is("turned round", x.rests(1, 0, 1, 0), 12);
        Due.is("first", x.rests(1, 0, 1, 1), 2);
        Due.is("second", x.rests(1, 0, 1, 2), 0);
        Due.is("no n", x.rests(0, 1, 0, 0), -1);
        Due.is("no n", x.rests(0, 1, 21, 0), -1);
        Due.is("no what", x.rests(0, 1, 1, 3), -1);
        Due.is("no what", x.rests(0, 1, 1, -1), -1);
        Due.is("oneself", x.rests(1, 1, 1, 0), -1);
        Due.is("no guest", x.rests(0, 2, 1, 0), -1);
        Due.is("no guest", x.rests(-1, 0, 1, 0), -1);
        // both sit in the first round, one alone in the second, and who would run from the other is caught
        MusicChairs y = Due.at("party 6;chair 2;chair 0;guest 5 1 3;guest 2 0 3");
        Due.is("one round: all alike", y.rests(0, 1, 1, 0), 36);
        Due.is("two rounds: none", y.rests(0, 1, 2, 0), 0);
        Due.is("none", y.rests(0, 1, 2, 1), -2);
        Due.is("none", y.rests(0, 1, 20, 2), -2);
        // step 0 keeps 0 on the chair; by any other 1 could take it, and 0 had better stay
        MusicChairs stay = Due.at("party 7;chair 0;guest 0 0 1;guest 3 0 1");
        Due.is("0 stays", stay.rests(0, 1, 1, 0), 6);
        Due.is("0 stays", stay.rests(1, 0, 1, 0), 6);
        x.round();
        Due.is("out", x.rests(0, 1, 1, 0), -1);
        MusicChairs z = Due.at("party 6;guest 5 1 3;guest 2 0 3");
        Due.is("over: all alike", z.rests(1, 0, 20, 0), 36);
        Due.is("over: the first", z.rests(1, 0, 20, 1), 0);
        Due.is("over: the first", z.rests(1, 0, 20, 2), 0);
    }

    private static void nothingChanges() {
        MusicChairs x = Due.at(THREE);
        x.pace(0, 2);
        x.note(3, 1, 0);
        x.seed(9);
        int[] due = new int[15];
        for (int k = 0; k < 15; k++) {
            due[k] = x.count(k);
        }
        x.ahead(0, 5, 0);
        x.winner(0);
        x.gone(0);
        x.safe(0, 0);
        x.row(0, 4, 0);
        x.within(9);
        x.kind(-1);
        x.longest();
        x.meet(0, 1);
        x.tour();
        x.away(0, 9, 0);
        x.begin(0, 9, 0);
        x.steps(0);
        x.quicks(0);
        x.rests(0, 1, 9, 0);
        x.pence(99, 0);
        x.ruled(0);
        x.look(0, 0);
        x.tunes(9, 9, 0);
        for (int k = 0; k < 15; k++) {
            Due.is("count(" + k + ") as it was", x.count(k), due[k]);
        }
        int[] guest = {2, 2, 5, 0, 0, 1};
        for (int k = 0; k < 6; k++) {
            Due.is("guest(0, " + k + ") as it was", x.guest(0, k), guest[k]);
        }
    }
}
