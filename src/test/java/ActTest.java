/** Promises 7 to 15: chairs, guests and times as they are; rounds, acts by hand, acts undone. */
public final class ActTest {
    private static final String THREE = "party 10;chair 0;chair 5;guest 2 1 5;guest 4 0 2;guest 9 3 9";

    public static void main(String[] args) {
        asTold();
        playedRounds();
        roundsByHand();
        ties();
        tiredness();
        swaps();
        paces();
        brings();
        undoing();
        Due.end("ActTest");
    }

    private static void guest(MusicChairs x, int guest, int... due) {
        for (int what = 0; what < due.length; what++) {
            Due.is("guest(" + guest + ", " + what + ")", x.guest(guest, what), due[what]);
        }
    }

    private static void asTold() {
        MusicChairs x = Due.at(THREE);
        Due.is("place", x.chair(0, 0), 0);
        Due.is("place", x.chair(1, 0), 5);
        Due.is("there", x.chair(1, 1), 1);
        Due.is("no what", x.chair(1, 2), -1);
        Due.is("no what", x.chair(1, -1), -1);
        Due.is("no chair", x.chair(2, 0), -1);
        Due.is("no chair", x.chair(-1, 0), -1);
        Due.is("no chair", x.chair(Integer.MIN_VALUE, 1), -1);
        guest(x, 0, 2, 1, 5, 0, 0, 1, -1);
        guest(x, 2, 9, 3, 9, 0, 0, 1, -1);
        Due.is("no what", x.guest(0, -1), -1);
        Due.is("no guest", x.guest(3, 0), -1);
        Due.is("no guest", x.guest(-1, 5), -1);
        int[] due = {4, 6, 20, 5, 1, 4};
        for (int k = 0; k < 6; k++) {
            Due.is("time", x.time(k / 2, k % 2), due[k]);
        }
        Due.is("no guest", x.time(3, 0), -1);
        Due.is("no guest", x.time(-1, 0), -1);
        Due.is("no chair", x.time(0, 2), -1);
        Due.is("no chair", x.time(0, -1), -1);
    }

    /** One beat: 0 stands at 3, 1 at 4, 2 at 2; 2 takes chair 0 in 2, then 0 takes chair 1 in 4. */
    private static void playedRounds() {
        MusicChairs x = Due.at(THREE);
        Due.is("beats below", x.play(0), -1);
        Due.is("beats above", x.play(61), -1);
        Due.is("nothing happens", x.count(12), 0);
        Due.is("play(1)", x.play(1), 5);
        guest(x, 0, 5, 1, 5, 1, 1, 1);
        guest(x, 1, 4, 0, 2, 0, 0, 0);
        guest(x, 2, 0, 3, 9, 1, 1, 1);
        Due.is("chair 1 went", x.chair(1, 1), 0);
        Due.is("its place", x.chair(1, 0), 5);
        Due.is("chair 0 stays", x.chair(0, 1), 1);
        Due.is("round", x.count(5), 1);
        Due.is("last", x.count(9), 1);
        Due.is("beats", x.count(10), 1);
        Due.is("time of one who is out", x.time(1, 0), 20);
        Due.is("time for a chair that is not there", x.time(2, 1), 5 * 11 / 9);
        // two beats: 0 stands at 7, 3 * 11 / 5 = 6 away; 2 at 6, 4 * 11 / 9 = 4 away
        Due.is("play(2)", x.play(2), 4);
        guest(x, 0, 7, 1, 5, 1, 1, 0);
        guest(x, 2, 0, 3, 9, 2, 2, 1);
        Due.is("over", x.count(8), 1);
        Due.is("no chair is there", x.count(7), 0);
        Due.is("last", x.count(9), 0);
        Due.is("over: nothing to play", x.play(1), -1);
        Due.is("nothing happens", x.count(5), 2);
        // sixty beats bring all back to where they began: 2 takes chair 0 in 1, then 1 takes chair 1 in 5
        Due.is("sixty beats", Due.at(THREE).play(60), 6);
    }

    private static void roundsByHand() {
        MusicChairs x = Due.at(THREE);
        // eight beats: 0 stands at 0, 2 at 3
        Due.is("round()", x.round(), 8);
        guest(x, 0, 0, 1, 5, 0, 1, 1);
        guest(x, 2, 5, 3, 9, 1, 1, 1);
        Due.is("chairs", x.count(7), 1);
        Due.is("round()", x.round(), 8);
        guest(x, 0, 8, 1, 5, 0, 1, 0);
        guest(x, 2, 0, 3, 9, 2, 2, 1);
        Due.is("over", x.count(8), 1);
        Due.is("round() when over", x.round(), 0);
        Due.is("one more round", x.count(5), 3);
        Due.is("no beats", x.count(10), 0);
        Due.is("last stays", x.count(9), 0);
        guest(x, 2, 0, 3, 9, 2, 2, 1);
        Due.is("without a party", new MusicChairs().round(), -1);
        MusicChairs empty = Due.at("party 4;guest 1 1 1;guest 2 1 1");
        Due.is("no chairs: over", empty.count(8), 1);
        Due.is("nobody moves", empty.round(), 0);
        guest(empty, 0, 1, 1, 1, 0, 0, 1);
        Due.is("nobody is out", empty.count(6), 3);
    }

    private static void ties() {
        // all are 1 away from both chairs: least guests first, least chairs first, the last one's chair goes
        MusicChairs x = Due.at("party 4;chair 2;chair 0;guest 1 0 1;guest 3 0 1;guest 1 0 1;guest 3 0 1");
        Due.is("play(1)", x.play(1), 3);
        Due.is("0 took chair 0", x.guest(0, 0), 2);
        Due.is("1 took chair 1", x.guest(1, 0), 0);
        Due.is("chair 1 went", x.count(7), 1);
        Due.is("greatest number was out last", x.count(9), 3);
        // more chairs than guests: nobody is out, nobody was last
        MusicChairs y = Due.at("party 8;chair 0;chair 2;chair 4;guest 1 0 1;guest 4 0 1");
        Due.is("play(3)", y.play(3), 3);
        Due.is("nobody was out", y.count(9), -1);
        Due.is("all are in", y.count(6), 3);
        Due.is("chair 0 went, for 1 sat at once", y.count(7), 6);
        Due.is("1 is not tired", y.guest(1, 3), 0);
        Due.is("but sat", y.guest(1, 4), 1);
    }

    private static void tiredness() {
        // the two change their chairs each round, and the chair that went comes back
        MusicChairs x = Due.at("party 4;chair 0;chair 1;guest 0 1 9;guest 1 1 9");
        for (int k = 1; k <= 32; k++) {
            Due.is("play", x.play(3), 3);
            Due.is("tired, together", x.guest(0, 3) + x.guest(1, 3) > 0 ? 1 : 0, 1);
            Due.is("sat", x.guest(0, 4), k);
            x.bring(x.chair(0, 1) == 0 ? 0 : 1);
        }
        MusicChairs y = Due.at("party 4;chair 0;guest 0 1 9;guest 0 1 9;guest 0 1 9");
        y.play(1);
        Due.is("tired", y.guest(0, 3), 1);
        MusicChairs z = Due.at("party 24;chair 0;chair 12;guest 0 1 1;guest 12 1 1");
        for (int k = 1; k <= 34; k++) {
            Due.is("play", z.play(1), 3);
            Due.is("tired at most", z.guest(0, 3), Math.min(k, 30));
            Due.is("tired at most", z.guest(1, 3), Math.min(k, 30));
            Due.is("time", z.time(0, 1), 12 * (10 + Math.min(k, 30)));
            z.bring(z.chair(0, 1) == 0 ? 0 : 1);
        }
    }

    private static void swaps() {
        MusicChairs x = Due.at(THREE);
        Due.is("swap", x.swap(0, 2), 9);
        Due.is("first", x.guest(0, 0), 9);
        Due.is("second", x.guest(2, 0), 2);
        Due.is("steps stay", x.guest(0, 1), 1);
        Due.is("oneself", x.swap(1, 1), -1);
        Due.is("no guest", x.swap(0, 3), -1);
        Due.is("no guest", x.swap(-1, 0), -1);
        Due.is("one act", x.count(12), 1);
        x.play(1);
        Due.is("who is in", x.count(6), 5);
        Due.is("one who is out", x.swap(0, 1), -1);
        Due.is("one who is out", x.swap(1, 0), -1);
        MusicChairs y = Due.at("party 4;guest 1 0 1;guest 1 0 1");
        Due.is("places alike, over", y.swap(0, 1), 1);
        Due.is("an act all the same", y.count(12), 1);
    }

    private static void paces() {
        MusicChairs x = Due.at(THREE);
        Due.is("pace", x.pace(0, 5), 1);
        Due.is("step", x.guest(0, 1), 5);
        Due.is("the same", x.pace(0, 5), -1);
        Due.is("above", x.pace(0, 6), -1);
        Due.is("below", x.pace(0, -1), -1);
        Due.is("no guest", x.pace(3, 1), -1);
        Due.is("no guest", x.pace(-1, 1), -1);
        Due.is("one act", x.count(12), 1);
        Due.is("none", x.pace(0, 0), 5);
        x.play(1);
        Due.is("0 is out", x.guest(0, 5), 0);
        Due.is("one who is out", x.pace(0, 4), 0);
        Due.is("step", x.guest(0, 1), 4);
    }

    private static void brings() {
        MusicChairs x = Due.at(THREE);
        Due.is("it is there", x.bring(0), -1);
        Due.is("no chair", x.bring(2), -1);
        Due.is("no chair", x.bring(-1), -1);
        Due.is("no act", x.count(12), 0);
        x.play(1);
        x.play(2);
        Due.is("over", x.count(8), 1);
        Due.is("bring", x.bring(1), 1);
        Due.is("there", x.count(7), 2);
        Due.is("bring", x.bring(0), 2);
        Due.is("over still: one guest", x.count(8), 1);
        MusicChairs y = Due.at("party 6;chair 0;chair 3;guest 1 1 1;guest 2 1 1");
        y.play(1);
        y.play(1);
        Due.is("over", y.count(8), 1);
        y.undo();
        y.bring(0);
        y.bring(1);
        Due.is("not over", y.count(8), 0);
        Due.is("goes on", y.play(1), 3);
    }

    private static void undoing() {
        MusicChairs x = Due.at(THREE);
        Due.is("none", x.undo(), -2);
        x.play(1);
        x.pace(0, 0);
        x.round();
        x.round();
        Due.is("over by now", x.count(10), 0);
        Due.is("undo", x.undo(), 3);
        Due.is("beats again", x.count(10), 8);
        Due.is("round", x.count(5), 2);
        Due.is("undo", x.undo(), 2);
        Due.is("last", x.count(9), 1);
        Due.is("beats", x.count(10), 1);
        Due.is("chairs", x.count(7), 1);
        Due.is("undo", x.undo(), 1);
        Due.is("step", x.guest(0, 1), 1);
        x.note(1, 1, 1);
        x.seed(5);
        Due.is("undo", x.undo(), 0);
        Due.is("notes stay", x.count(11), 1);
        Due.is("x stays", x.count(13), 5);
        guest(x, 0, 2, 1, 5, 0, 0, 1);
        guest(x, 1, 4, 0, 2, 0, 0, 1);
        Due.is("last", x.count(9), -1);
        Due.is("none more", x.undo(), -2);
        for (int k = 1; k <= 25; k++) {
            x.pace(1, k % 6);
            Due.is("acts", x.count(12), Math.min(k, 20));
        }
        for (int k = 19; k >= 0; k--) {
            Due.is("undo", x.undo(), k);
            Due.is("step", x.guest(1, 1), (k + 5) % 6);
        }
        Due.is("the sixth and those ahead of it stay", x.undo(), -2);
        Due.is("step", x.guest(1, 1), 5);
    }
}
