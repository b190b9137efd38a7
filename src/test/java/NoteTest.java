/** Promises 28, 29 and 31 to 39: notes and what they say, pence, draws, counts, images. */
public final class NoteTest {
    /** 0 stays 10 from the chair; 1 is on it behind 4, 10, .. beats, else as far away or further. */
    private static final String TWO = "party 6;chair 0;guest 1 0 1;guest 2 1 1";
    private static final String THREE = "party 10;chair 0;chair 5;guest 2 1 5;guest 4 0 2;guest 9 3 9";

    public static void main(String[] args) {
        steps();
        quicks();
        fromTheBegin();
        pence();
        notes();
        rules();
        looks();
        seeds();
        tunes();
        counts();
        images();
        imagesOfNothing();
        imagesOfActs();
        Due.end("NoteTest");
    }

    private static void steps() {
        MusicChairs x = Due.at(TWO);
        Due.is("no notes: all", x.steps(0), 63);
        x.note(0, 1, 1);
        Due.is("upon the chair behind 8 beats", x.steps(1), 4 + 32);
        Due.is("0 further off than 20", x.steps(0), 2 + 16);
        Due.is("no guest", x.steps(2), -1);
        Due.is("no guest", x.steps(-1), -1);
        x.note(20, 1, 1);
        Due.is("over stays over", x.steps(1), 4 + 32);
        x.note(20, 0, 1);
        Due.is("both can't be", x.steps(1), 0);
        x.note(-1, 0, 0);
        x.note(0, 1, 0);
        Due.is("the others", x.steps(1), 63 - 4 - 32);
        MusicChairs y = Due.by(TWO, "play 1");
        y.note(0, 1, 1);
        Due.is("4 ahead by 1 beat", y.steps(1), 16);
        Due.is("no party", new MusicChairs().steps(0), -1);
    }

    private static void quicks() {
        MusicChairs x = Due.at(TWO);
        Due.is("no notes: all", x.quicks(0), 1022);
        x.note(0, 1, 1);
        Due.is("20 / QUICK below 10", x.quicks(1), 1022 - 2 - 4);
        Due.is("10 / QUICK above 20", x.quicks(0), 0);
        Due.is("no guest", x.quicks(2), -1);
        Due.is("no guest", x.quicks(-1), -1);
        x.note(-1, 0, 0);
        x.note(5, 1, 0);
        Due.is("the others", x.quicks(1), 2 + 4);
        Due.is("no party", new MusicChairs().quicks(0), -1);
    }

    private static void fromTheBegin() {
        MusicChairs x = Due.at(TWO);
        x.note(0, 1, 1);
        x.pace(0, 4);
        x.pace(1, 5);
        x.swap(0, 1);
        x.round();
        Due.is("acts don't matter", x.steps(1), 4 + 32);
        Due.is("acts don't matter", x.quicks(1), 1022 - 2 - 4);
        Due.is("acts don't matter", x.ruled(0), 0);
        Due.is("one who is out can be asked and noted", x.note(3, 0, 0), 2);
    }

    private static void pence() {
        MusicChairs x = Due.at(THREE);
        Due.is("nobody sat", x.pence(100, 0), 0);
        x.play(1);
        Due.is("1 to 1: the least first", x.pence(5, 0), 3);
        Due.is("1 to 1", x.pence(5, 2), 2);
        Due.is("1 has not sat", x.pence(5, 1), 0);
        x.play(2);
        int[] due = {3, 0, 7};
        for (int g = 0; g < 3; g++) {
            Due.is("1 to 2", x.pence(10, g), due[g]);
        }
        Due.is("one", x.pence(1, 0), 0);
        Due.is("one", x.pence(1, 2), 1);
        Due.is("two", x.pence(2, 0), 1);
        Due.is("two", x.pence(2, 2), 1);
        Due.is("all", x.pence(9999, 0), 3333);
        Due.is("all", x.pence(9999, 2), 6666);
        Due.is("none", x.pence(0, 2), 0);
        Due.is("too much", x.pence(10000, 0), -1);
        Due.is("too little", x.pence(-1, 0), -1);
        Due.is("no guest", x.pence(1, 3), -1);
        Due.is("no guest", x.pence(1, -1), -1);
        MusicChairs one = Due.at(TWO);
        one.round();
        Due.is("one sat once", one.pence(5, 0), 5);
        // of 3 with equal parts 2 have one each
        MusicChairs y = Due.at("party 12;chair 0;chair 4;chair 8;guest 0 0 1;guest 4 0 1;guest 8 0 1");
        y.play(1);
        Due.is("5 by 3", y.pence(5, 0), 2);
        Due.is("5 by 3", y.pence(5, 1), 2);
        Due.is("5 by 3", y.pence(5, 2), 1);
    }

    private static void notes() {
        MusicChairs x = new MusicChairs();
        Due.is("no party: none", x.note(-1, 5, 5), 0);
        Due.is("no party", x.note(0, 0, 0), -2);
        x = Due.at(TWO);
        Due.is("no n", x.note(-2, 0, 0), -2);
        Due.is("no n", x.note(21, 0, 0), -2);
        Due.is("no guest", x.note(0, 2, 0), -2);
        Due.is("no guest", x.note(0, -1, 0), -2);
        Due.is("no in", x.note(0, 0, 2), -2);
        Due.is("no in", x.note(0, 0, -1), -2);
        Due.is("none", x.count(11), 0);
        for (int k = 1; k <= 10; k++) {
            Due.is("note", x.note(20, 0, 1), k);
        }
        Due.is("an eleventh", x.note(20, 0, 1), -2);
        Due.is("ten", x.count(11), 10);
        Due.is("no act", x.count(12), 0);
        Due.is("none then", x.note(-1, 9, 9), 0);
        Due.is("none", x.count(11), 0);
        Due.is("note", x.note(0, 0, 1), 1);
    }

    private static void rules() {
        Due.is("no party", new MusicChairs().ruled(0), -3);
        MusicChairs x = Due.at(TWO);
        Due.is("none alone", x.ruled(0), 1);
        Due.rule(x, "play 1");
        Due.rule(x, "play 4");
        Due.rule(x, "play 10");
        Due.is("all", x.ruled(0), 4);
        Due.is("first: none", x.ruled(1), -1);
        x.note(0, 1, 1);
        Due.is("4 and 10", x.ruled(0), 2);
        Due.is("4", x.ruled(1), 1);
        x.force(2);
        Due.is("whatever is in force", x.ruled(0), 2);
        x.note(0, 0, 1);
        Due.is("none such", x.ruled(0), 0);
        Due.is("none such", x.ruled(1), -2);
        Due.is("no what", x.ruled(2), -3);
        Due.is("no what", x.ruled(-1), -3);
        x.note(-1, 0, 0);
        x.note(0, 1, 0);
        Due.is("none and 1", x.ruled(0), 2);
        Due.is("none", x.ruled(1), -1);
        MusicChairs y = Due.at("party 4;chair 0;chair 1;guest 0 0 9;guest 1 0 9");
        y.note(0, 1, 1);
        y.note(0, 0, 1);
        Due.is("behind the first round both are in", y.ruled(0), 1);
        y.note(1, 0, 1);
        y.note(1, 1, 1);
        Due.is("behind the second one is out", y.ruled(0), 0);
    }

    private static void looks() {
        Due.is("no party", new MusicChairs().look(0, 0), -1);
        Due.is("no guests", Due.at("party 4;chair 0").look(0, 1), -2);
        // 0 always sits on chair 1; 1 and 2 are as in TWO
        MusicChairs x = Due.at("party 6;chair 0;chair 3;guest 3 0 9;guest 1 0 1;guest 2 1 1");
        MusicChairs two = Due.at(TWO);
        Due.rule(two, "play 4");
        Due.rule(two, "play 10");
        Due.rule(two, "play 1");
        Due.is("0 parts as well as 1", two.look(0, 0), 0);
        Due.is("0 parts as well as 1", two.look(0, 1), 2);
        Due.is("one rule: the least", x.look(0, 0), 0);
        Due.is("one rule: one", x.look(0, 1), 1);
        Due.rule(x, "play 4");
        Due.rule(x, "play 10");
        Due.is("2 of 3 are alike", x.look(0, 0), 1);
        Due.is("2 of 3 are alike", x.look(0, 1), 2);
        Due.rule(x, "play 1");
        Due.is("2 of 4 are alike", x.look(0, 0), 1);
        Due.is("2 of 4 are alike", x.look(0, 1), 2);
        x.note(0, 2, 1);
        Due.is("these are alike", x.look(0, 0), 0);
        Due.is("these are alike", x.look(0, 1), 2);
        x.note(0, 0, 0);
        Due.is("no rule is so", x.look(0, 0), -2);
        Due.is("no rule is so", x.look(0, 1), -2);
        Due.is("no n", x.look(21, 0), -1);
        Due.is("no n", x.look(-1, 0), -1);
        Due.is("no what", x.look(0, 2), -1);
        Due.is("no what", x.look(0, -1), -1);
        x.note(-1, 0, 0);
        Due.is("the last round", x.look(20, 0) >= 0 ? 1 : 0, 1);
    }

    private static void seeds() {
        MusicChairs x = new MusicChairs();
        Due.is("0 at first", x.seed(5), 0);
        Due.is("it was", x.seed(2147483647), 5);
        Due.is("below", x.seed(-1), -1);
        Due.is("it stays", x.count(13), 2147483647);
        Due.is("it was", x.seed(0), 2147483647);
    }

    private static void tunes() {
        // draws from 0 on, mod 6: 0 0 4 1 0 1 1 1 2 4 3 4 1 2 3 3 4 1 2 3; 1 wins by 3, for these are 4 beats
        MusicChairs x = Due.at(TWO);
        Due.is("ten", x.tunes(10, 6, 1), 0);
        Due.is("eleven", x.tunes(11, 6, 1), 1);
        Due.is("twenty", x.tunes(20, 6, 1), 4);
        Due.is("twenty", x.tunes(20, 6, 0), 16);
        Due.is("nobody", x.tunes(20, 6, -1), 0);
        Due.is("x as it was", x.count(13), 0);
        // here 1 wins by 5 beats, 4 of the draws
        MusicChairs y = Due.at("party 7;chair 0;guest 1 0 1;guest 2 1 1");
        Due.is("ten", y.tunes(10, 6, 1), 2);
        Due.is("ten", y.tunes(10, 6, 0), 8);
        x.seed(551188310);
        Due.is("from another on", x.tunes(1, 6, 1), 1);
        Due.is("one beat", x.tunes(20, 1, 1), 0);
        Due.is("no m", x.tunes(0, 6, 1), -2);
        Due.is("no m", x.tunes(21, 6, 1), -2);
        Due.is("no p", x.tunes(1, 0, 1), -2);
        Due.is("no p", x.tunes(1, 61, 1), -2);
        Due.is("no guest", x.tunes(1, 6, 2), -2);
        Due.is("no guest", x.tunes(1, 6, -2), -2);
        Due.is("no party", new MusicChairs().tunes(1, 1, -1), -2);
        x.round();
        Due.is("over: who is in alone", x.tunes(7, 60, 0), 7);
        Due.is("over: one who is out", x.tunes(7, 60, 1), 0);
        Due.is("two without a chair", Due.at("party 4;guest 0 0 1;guest 0 0 1").tunes(3, 3, -1), 3);
    }

    private static void counts() {
        MusicChairs x = Due.by(THREE, "play 1");
        x.round();
        x.note(0, 0, 1);
        x.seed(6);
        x.feed(1, 2, 3, 4, 5);
        int[] due = {10, 2, 3, 1, 0, 1, 5, 1, 0, 1, 1, 1, 1, 6, 20};
        for (int what = 0; what < due.length; what++) {
            Due.is("count(" + what + ")", x.count(what), due[what]);
        }
        Due.is("no what", x.count(15), -1);
        Due.is("no what", x.count(-1), -1);
    }

    private static void images() {
        MusicChairs x = Due.by(THREE, "play 1");
        x.round();
        x.note(0, 0, 1);
        x.seed(6);
        Due.is("no image", x.image(4), -1);
        Due.is("no image", x.image(-1), -1);
        Due.is("image", x.image(3), 1);
        Due.is("never made", x.back(0), -1);
        Due.is("no image", x.back(4), -1);
        Due.is("no image", x.back(-1), -1);
        Due.rule(x, "play 2");
        x.force(1);
        x.round();
        x.note(0, 1, 1);
        x.seed(7);
        Due.is("another", x.image(0), 2);
        Due.party(x, "party 4");
        x.feed(1, 2, 3, 4, 5);
        Due.is("back", x.back(3), 1);
        int[] due = {10, 2, 3, 2, 0, 1, 5, 1, 0, 1, 1, 1, 1, 6, 20};
        for (int what = 0; what < due.length; what++) {
            Due.is("count(" + what + ") then", x.count(what), due[what]);
        }
        Due.is("places", x.guest(0, 0), 5);
        Due.is("the text as told", x.steps(0) >= 0 ? 1 : 0, 1);
        x.pace(0, 5);
        Due.is("back to the other", x.back(0), 2);
        Due.is("rule", x.count(4), 1);
        Due.is("notes", x.count(11), 2);
        Due.is("step", x.guest(0, 1), 1);
        Due.is("the image is as it was", x.back(3), 1);
        Due.is("step", x.guest(0, 1), 1);
        x.round();
        Due.is("made anew", x.image(3), 2);
        x.undo();
        Due.is("back", x.back(3), 2);
    }

    private static void imagesOfNothing() {
        MusicChairs x = new MusicChairs();
        Due.is("image", x.image(1), 0);
        Due.party(x, TWO);
        x.round();
        Due.is("back", x.back(1), 0);
        int[] due = {0, 0, 0, 0, -1, 0, 0, 0, 0, -1, 0, 0, 0, 0, 0};
        for (int what = 0; what < due.length; what++) {
            Due.is("count(" + what + ") of nothing", x.count(what), due[what]);
        }
        Due.is("no party", x.round(), -1);
        Due.is("no guest", x.guest(0, 0), -1);
        Due.is("no guest", x.steps(0), -1);
        Due.is("none to undo", x.undo(), -2);
    }

    private static void imagesOfActs() {
        MusicChairs x = Due.at(TWO);
        for (int k = 1; k <= 25; k++) {
            x.pace(0, k % 6);
        }
        x.image(2);
        for (int k = 0; k < 15; k++) {
            x.undo();
        }
        for (int k = 0; k < 25; k++) {
            x.swap(0, 1);
        }
        x.back(2);
        for (int k = 24; k >= 5; k--) {
            Due.is("undo", x.undo(), k - 5);
            Due.is("step", x.guest(0, 1), k % 6);
            Due.is("place", x.guest(0, 0), 1);
        }
        Due.is("none more", x.undo(), -2);
        MusicChairs y = Due.at(TWO);
        y.pace(0, 1);
        y.pace(0, 2);
        y.pace(0, 3);
        y.image(0);
        for (int k = 0; k < 3; k++) {
            y.undo();
        }
        for (int k = 0; k < 3; k++) {
            y.swap(0, 1);
        }
        y.back(0);
        for (int k = 2; k >= 0; k--) {
            Due.is("undo", y.undo(), k);
            Due.is("step", y.guest(0, 1), k);
            Due.is("place", y.guest(0, 0), 1);
        }
        Due.is("once more", x.back(2), 0);
        Due.is("acts", x.count(12), 20);
    }
}
