/** A party with as many chairs and guests as there can be, and texts as long as they can be. */
public final class FullTest {
    /** Six sit on a chair of their own, so each round the greatest of them is out. */
    private static final String SEVEN = "party 24;chair 0;chair 4;chair 8;chair 12;chair 16;chair 20;guest 0 0 9"
        + ";guest 4 0 9;guest 8 0 9;guest 12 0 9;guest 16 0 9;guest 20 0 9;guest 2 0 1";

    public static void main(String[] args) {
        whatIsAsked();
        byHand();
        words();
        longTexts();
        cutTexts();
        Due.end("FullTest");
    }

    private static void whatIsAsked() {
        MusicChairs x = Due.at(SEVEN);
        Due.is("winner", x.winner(0), 0);
        Due.is("winner", x.winner(1), 6);
        Due.is("gone(6)", x.gone(6), 0);
        Due.is("gone(5)", x.gone(5), 1);
        Due.is("gone(1)", x.gone(1), 5);
        Due.is("gone(0)", x.gone(0), -2);
        Due.is("ahead 4", x.ahead(0, 4, 1), 7);
        Due.is("ahead 4", x.ahead(0, 4, 2), 3);
        Due.is("ahead 6", x.ahead(0, 6, 1), 1);
        Due.is("ahead 6", x.ahead(0, 6, 2), 0);
        Due.is("safe", x.safe(5, 0), 60);
        Due.is("safe", x.safe(6, 0), 0);
        Due.is("row", x.row(2, 4, 0), 1296);
        Due.is("row", x.row(2, 4, 4), 1);
        Due.is("row", x.row(3, 4, 0), 0);
        Due.is("row", x.row(3, 4, 1), -2);
        Due.is("row", x.row(3, 3, 0), 216);
        Due.is("within", x.within(0), 6);
        Due.is("within", x.within(999), 6);
        Due.is("kind", x.kind(-1), 0);
        Due.is("kind", x.kind(5), 5);
        Due.is("kind", x.kind(6), -1);
        Due.is("longest", x.longest(), 0);
        Due.is("tour", x.tour(), 1);
        Due.is("meet", x.meet(5, 6), -2);
        Due.is("away", x.away(5, 20, 0), -1);
        Due.is("away", x.away(5, 20, 1), 1);
        Due.is("begin", x.begin(6, 20, 0), 2);
        Due.is("begin", x.begin(6, 20, 1), 0);
        Due.is("steps", x.steps(6), 63);
        Due.is("quicks", x.quicks(6), 1022);
        Due.is("tunes", x.tunes(20, 60, 0), 20);
        Due.is("tunes", x.tunes(20, 60, 6), 0);
        Due.is("tunes", x.tunes(20, 60, -1), 0);
        Due.is("rests", x.rests(0, 6, 20, 0) >= 0 ? 1 : 0, 1);
        Due.is("note", x.note(5, 0, 1), 1);
        Due.is("note", x.note(4, 1, 1), 2);
        Due.is("note", x.note(5, 1, 0), 3);
        Due.is("ruled", x.ruled(0), 1);
        Due.is("look", x.look(20, 1), 1);
    }

    private static void byHand() {
        MusicChairs x = Due.at(SEVEN);
        for (int k = 1; k <= 6; k++) {
            Due.is("round", x.round(), 8);
            Due.is("in", x.count(6), (1 << 7 - k) - 1);
            Due.is("there", x.count(7), (1 << 6 - k) - 1);
            Due.is("last", x.count(9), 7 - k);
            Due.is("over", x.count(8), k == 6 ? 1 : 0);
        }
        for (int g = 0; g < 7; g++) {
            Due.is("sat", x.guest(g, 4), 6 - g);
            Due.is("tired", x.guest(g, 3), 0);
            Due.is("pence", x.pence(21, g), 6 - g);
        }
        for (int c = 0; c < 6; c++) {
            Due.is("bring", x.bring(c), c + 1);
        }
    }

    private static void words() {
        String[] rules = {"play near+20", "play guests*7", "play chairs*7", "play tired+fast+slow+9"};
        int[] due = {26, 49, 42, 9};
        for (int k = 0; k < rules.length; k++) {
            Due.is(rules[k], Due.by(SEVEN, rules[k]).round(), due[k]);
        }
    }

    private static String filled(String text, char with) {
        return text + String.valueOf(with).repeat(400 - text.length());
    }

    private static void longTexts() {
        MusicChairs x = new MusicChairs();
        Due.is("blanks", Due.party(x, filled("party 5", ' ')), 0);
        Due.is("digits", Due.party(x, filled("party 5", '5')), Due.fault(6, 1));
        Due.is("letters", Due.party(x, filled("party ", 'z')), Due.fault(6, 0));
        Due.is("letters", Due.party(x, filled("party", 'y')), Due.fault(0, 0));
        Due.is("the end of 400", Due.party(x, filled("party", ' ')), Due.fault(400, 0));
        Due.is("the end of 400", Due.rule(x, filled("play 1 if ", ' ')), Due.fault(400, 0));
        Due.is("the last byte", Due.rule(x, filled("play 1", ' ').substring(0, 399) + "<"), Due.fault(399, 0));
        Due.is("the last byte", Due.rule(x, filled("play 1 if 1", ' ').substring(0, 399) + "<"), Due.fault(400, 0));
        Due.is("the last byte", Due.rule(x, filled("play 1 if 1", ' ').substring(0, 398) + "<2"), 0);
        Due.is("blanks", Due.rule(x, filled("play 1", ' ')), 1);
    }

    /** Bytes that were cut off are no part of the text. */
    private static void cutTexts() {
        String[] whole = {"party 44", "party 4;", "party 4 chair", "partyy", "party  44"};
        int[] length = {7, 7, 8, 5, 7};
        int[] due = {0, 0, 0, Due.fault(5, 0), Due.fault(7, 0)};
        for (int k = 0; k < whole.length; k++) {
            MusicChairs x = new MusicChairs();
            Due.tell(x, whole[k]);
            x.end(length[k]);
            Due.is(whole[k] + " cut", x.party(), due[k]);
        }
        MusicChairs y = new MusicChairs();
        Due.tell(y, "play 1 if 1<=2");
        y.end(12);
        Due.is("cut within a sign", y.rule(), Due.fault(12, 0));
        Due.tell(y, "play round 1");
        y.end(9);
        Due.is("cut within a word", y.rule(), Due.fault(5, 0));
    }
}
