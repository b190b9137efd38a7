/** Promises 1 to 6: the new object, the tape, texts of parties and rules and their faults, the rule in force. */
public final class TextTest {
    private static final String SMALL = "party 6;chair 0;guest 1 0 1;guest 2 1 1";

    public static void main(String[] args) {
        newObject();
        tape();
        partyTexts();
        partyFaults();
        partyStartsAnew();
        ruleTexts();
        ruleFaults();
        ruleLimits();
        ruleNumbers();
        ruleWorth();
        ruleWords();
        forces();
        Due.end("TextTest");
    }

    private static void newObject() {
        MusicChairs x = new MusicChairs();
        int[] due = {0, 0, 0, 0, -1, 0, 0, 0, 0, -1, 0, 0, 0, 0, 0};
        for (int what = 0; what < due.length; what++) {
            Due.is("new count(" + what + ")", x.count(what), due[what]);
        }
        Due.is("new undo", x.undo(), -2);
        Due.is("new back(0)", x.back(0), -1);
    }

    private static void tape() {
        MusicChairs x = new MusicChairs();
        for (int k = 1; k <= 20; k++) {
            Due.is("feed", x.feed(k, k, k, k, k), 20 * k);
        }
        Due.is("feed beyond 400", x.feed(1, 2, 3, 4, 5), -1);
        Due.is("tape stays", x.count(14), 400);
        Due.is("end above", x.end(401), -1);
        Due.is("end below", x.end(-1), -1);
        Due.is("end of all", x.end(400), 400);
        Due.is("end 381", x.end(381), 381);
        Due.is("feed to 401", x.feed(1, 2, 3, 4, 5), -1);
        Due.is("end 380", x.end(380), 380);
        Due.is("feed to 400", x.feed(1, 2, 3, 4, 5), 400);
        Due.is("end 0", x.end(0), 0);
        Due.is("bytes of zero", x.feed(0, 0, 0, 0, 0), 20);
        Due.is("highest byte first", x.end(0), 0);
        x.feed(('p' << 24) | ('a' << 16) | ('r' << 8) | 't', ('y' << 24) | ('4' << 16), 0, 0, 0);
        x.end(6);
        Due.is("party4", x.party(), 0);
        Due.is("places", x.count(0), 4);
    }

    private static void partyTexts() {
        MusicChairs x = new MusicChairs();
        Due.is("least", Due.party(x, "party 4"), 0);
        Due.is("greatest", Due.party(x, "party 24"), 0);
        Due.is("places", x.count(0), 24);
        Due.is("five digits", Due.party(x, "party 00007"), 0);
        Due.is("places", x.count(0), 7);
        Due.is("blanks", Due.party(x, "  party  9 ; chair 8;guest  0  5   9  ;chair0 "), 1);
        Due.is("chairs", x.count(1), 2);
        Due.is("place", x.chair(0, 0), 8);
        Due.is("place", x.chair(1, 0), 0);
        Due.is("step", x.guest(0, 1), 5);
        Due.is("quick", x.guest(0, 2), 9);
        Due.is("tape is empty", x.count(14), 0);
        Due.is("guests share a place", Due.party(x, "party 4;guest 3 0 1;guest 3 0 1"), 2);
        Due.is("most", Due.party(x, "party 24" + ";chair 1;chair 2;chair 3;chair 4;chair 5;chair 6"
            + ";guest 1 0 1".repeat(7)), 7);
        Due.is("chairs", x.count(1), 6);
        Due.is("bits of guests", x.count(6), 127);
        Due.is("bits of chairs", x.count(7), 63);
    }

    private static void partyFault(String text, int place, int sort) {
        MusicChairs x = Due.at(SMALL);
        Due.is("party '" + text + "'", Due.party(x, text), Due.fault(place, sort));
        Due.is("all stays", x.count(0), 6);
        Due.is("all stays", x.count(2), 2);
        Due.is("tape is empty", x.count(14), 0);
    }

    private static void partyFaults() {
        partyFault("", 0, 0);
        partyFault("   ", 3, 0);
        partyFault("party", 5, 0);
        partyFault("party ;", 6, 0);
        partyFault("Party 8", 0, 0);
        partyFault(" partyy 8", 1, 0);
        partyFault("play 8", 0, 0);
        partyFault("party -8", 6, 0);
        partyFault("party 8;", 8, 0);
        partyFault("party 8; ", 9, 0);
        partyFault("party 8;;", 8, 0);
        partyFault("party 8 8", 8, 0);
        partyFault("party 8chair 1", 7, 0);
        partyFault("party 8;chairs 1", 8, 0);
        partyFault("party 8;chair 1 2", 16, 0);
        partyFault("party 8;guest 1 2", 17, 0);
        partyFault("party 8;guest 1 2;", 17, 0);
        partyFault("party 8;guest 1 2 3 4", 20, 0);
        partyFault("party 8\u00e9", 7, 0);
        partyFault("party 8\n", 7, 0);
        partyFault("party 3", 6, 1);
        partyFault("party 25", 6, 1);
        partyFault("party 000008", 6, 1);
        partyFault("party 99999999999", 6, 1);
        partyFault("party 8;chair 8", 14, 1);
        partyFault("party 8;chair 3;chair 2;chair  3", 31, 1);
        partyFault("party 8;guest 8 0 1", 14, 1);
        partyFault("party 8;guest 7 6 1", 16, 1);
        partyFault("party 8;guest 7 5 0", 18, 1);
        partyFault("party 8;guest 7 5 10", 18, 1);
        partyFault("party 8;guest 7 5 10;x", 18, 1);
        partyFault("chair 1;party 8", 0, 4);
        partyFault("  guest", 2, 4);
        partyFault("party 8; party 8", 9, 4);
        partyFault("party 9;chair 0;chair 1;chair 2;chair 3;chair 4;chair 5;chair 9", 56, 4);
        partyFault("party 4" + ";guest 0 0 1".repeat(8), 7 + 7 * 12 + 1, 4);
        partyFault("party 9;chair 0;chair 1;chair 2;chair 3;chair 4;chair 5;chain 9", 56, 0);
    }

    private static void partyStartsAnew() {
        MusicChairs x = Due.by(SMALL, "play 4");
        x.seed(77);
        x.round();
        x.note(0, 0, 1);
        Due.is("another party", Due.party(x, "party 5;guest 1 1 1"), 1);
        int[] due = {5, 0, 1, 1, 0, 0, 1, 0, 1, -1, 0, 0, 0, 77, 0};
        for (int what = 0; what < due.length; what++) {
            Due.is("count(" + what + ") then", x.count(what), due[what]);
        }
        Due.is("nothing to be undone", x.undo(), -2);
        Due.is("same text again", Due.party(x, SMALL), 2);
        Due.is("nobody sat", x.guest(0, 4) + x.guest(1, 4), 0);
        Due.is("nobody is tired", x.guest(0, 3) + x.guest(1, 3), 0);
        Due.is("the chair is there", x.count(7), 1);
    }

    private static void ruleTexts() {
        MusicChairs x = new MusicChairs();
        Due.is("plain", Due.rule(x, "play 1"), 0);
        Due.is("tape is empty", x.count(14), 0);
        Due.is("without blanks", Due.rule(x, "play1if1<2and[2>=1or not3=4];play0"), 1);
        Due.is("with blanks", Due.rule(x, "  play  places + 1  if  [ not  [ 1 <= 2 ] ]  ;  play 99999  "), 2);
        Due.is("words", Due.rule(x, "play places+round+guests+chairs+last+beats+fast+slow+near+tired"), 3);
        Due.is("ten deep", Due.rule(x, "play 1 if [not [not [not [not [not 1>2]]]]] and not not 1=1"), 4);
        Due.is("count", x.count(3), 5);
    }

    private static void ruleFault(String text, int place, int sort) {
        MusicChairs x = new MusicChairs();
        Due.is("rule '" + text + "'", Due.rule(x, text), Due.fault(place, sort));
        Due.is("no rule", x.count(3), 0);
        Due.is("tape is empty", x.count(14), 0);
    }

    private static void ruleFaults() {
        ruleFault("", 0, 0);
        ruleFault("  ", 2, 0);
        ruleFault("play", 4, 0);
        ruleFault("plays 1", 0, 0);
        ruleFault("playplaces", 0, 0);
        ruleFault("party 8", 0, 0);
        ruleFault("playz 1", 0, 0);
        ruleFault("play 1`", 6, 0);
        ruleFault("play 1{", 6, 0);
        ruleFault("play 1;", 7, 0);
        ruleFault("play 1 2", 7, 0);
        ruleFault("play place", 5, 0);
        ruleFault("play -1", 5, 0);
        ruleFault("play 1+", 7, 0);
        ruleFault("play 1++1", 7, 0);
        ruleFault("play (1)", 5, 0);
        ruleFault("play [1]", 5, 0);
        ruleFault("play if 1<2", 5, 0);
        ruleFault("play 1 iff 1<2", 7, 0);
        ruleFault("play 1 < 2", 7, 0);
        ruleFault("play 1 if", 9, 0);
        ruleFault("play 1 if 1", 11, 0);
        ruleFault("play 1 if 1;", 11, 0);
        ruleFault("play 1 if 1<", 12, 0);
        ruleFault("play 1 if 1< =2", 13, 0);
        ruleFault("play 1 if 1=<2", 12, 0);
        ruleFault("play 1 if 1==2", 12, 0);
        ruleFault("play 1 if 1<2<3", 13, 0);
        ruleFault("play 1 if 1<2 and", 17, 0);
        ruleFault("play 1 if 1<2 or or 1<2", 17, 0);
        ruleFault("play 1 if and 1<2", 10, 0);
        ruleFault("play 1 if 1 not < 2", 12, 0);
        ruleFault("play 1 if 1 < not 2", 14, 0);
        ruleFault("play 1 if [1<2", 14, 0);
        ruleFault("play 1 if [1<2;", 14, 0);
        ruleFault("play 1 if [1]<2", 12, 0);
        ruleFault("play 1 if []", 11, 0);
        ruleFault("play 1 if 1<2]", 13, 0);
        ruleFault("play 1 if 1<[2]", 12, 0);
        ruleFault("play 1 if 1<2 if 1<2", 14, 0);
        ruleFault("play 1 if 1<2 play 2", 14, 0);
        ruleFault("play 1 if nothing<2", 10, 0);
        ruleFault("play 100000", 5, 1);
        ruleFault("play 1+000000", 7, 1);
        ruleFault("play 1 if 123456 x", 10, 1);
    }

    private static void ruleLimits() {
        ruleFault("play 1 if " + "[".repeat(11), 20, 2);
        ruleFault("play 1 if " + "not ".repeat(11) + "1<2", 50, 2);
        ruleFault("play 1 if " + "[not ".repeat(5) + "[1<2", 35, 2);
        ruleFault("play 1 if " + "[".repeat(10) + "1<2" + "]".repeat(11), 33, 0);
        ruleFault("play 1+1 if 1+1<2 and 1*1<2 or " + "[".repeat(11), 31 + 10, 2);
        ruleFault("play 1 if [not 1<2] and not [1<2] or " + "not ".repeat(11), 37 + 40, 2);
        ruleFault("play 1" + "+1".repeat(60), 5 + 120, 3);
        ruleFault("play 1" + "+1".repeat(59) + ";play 1", 5 + 119 + 1 + 5, 3);
        ruleFault("play 1" + "+1".repeat(58) + " if 1<2", 5 + 117 + 4 + 1, 3);
        ruleFault("play 1" + "+1".repeat(58) + " if 1 x", 5 + 117 + 4 + 2, 0);
        ruleFault("play 1" + "+1".repeat(57) + " if 1<2", 5 + 115 + 4 + 2, 3);
        ruleFault("play 1" + "+1".repeat(59) + "+x", 5 + 119 + 1, 0);
        ruleFault("play 1" + "+1".repeat(59) + "+123456", 5 + 119 + 1, 1);
        ruleFault("play 1;".repeat(12) + "play 1", 84, 4);
        ruleFault("play 1;".repeat(12) + "plan 1", 84, 0);
        ruleFault("play 1;".repeat(12), 84, 0);
        MusicChairs x = new MusicChairs();
        Due.is("ten brackets", Due.rule(x, "play 1 if " + "[".repeat(10) + "1<2" + "]".repeat(10)), 0);
        Due.is("ten nots", Due.rule(x, "play 1 if " + "not ".repeat(10) + "1<2"), 1);
        Due.is("sixty values", Due.rule(x, "play 1" + "+1".repeat(59)), 2);
        Due.is("values and facts", Due.rule(x, "play 1" + "+1".repeat(56) + " if 1<2"), 3);
        Due.is("twelve clauses", Due.rule(x, "play 1;".repeat(11) + "play 1"), 4);
        Due.is("one beside another", Due.rule(x, "play 1 if [[1<2]] and [[1<2]] and not not not 1<2"), 5);
    }

    private static void ruleNumbers() {
        MusicChairs x = new MusicChairs();
        for (int k = 0; k < 6; k++) {
            Due.is("number", Due.rule(x, "play " + k), k);
        }
        Due.tell(x, "play 7");
        Due.is("a seventh", x.rule(), -1);
        Due.is("nothing happens", x.count(14), 6);
        Due.tell(x, "wrong");
        Due.is("a seventh that is wrong", x.rule(), -1);
        Due.is("nothing happens", x.count(14), 5);
        Due.is("six", x.count(3), 6);
    }

    /** The beats that a rule says at the begin of a party. */
    private static void worth(String rule, int beats) {
        MusicChairs x = Due.by("party 10;chair 1;chair 4;chair 9;guest 1 2 3;guest 4 5 9;guest 4 1 3", rule);
        Due.is(rule, x.round(), beats);
        Due.is("beats", x.count(10), beats);
    }

    private static void ruleWorth() {
        worth("play 7", 7);
        worth("play 0", 1);
        worth("play 1-9", 1);
        worth("play 60", 60);
        worth("play 61", 60);
        worth("play 99999*99999", 60);
        worth("play 2+3*4", 14);
        worth("play 20-3-4", 13);
        worth("play 20/3/2", 3);
        worth("play 20%7*3", 18);
        worth("play 3*20%7", 4);
        worth("play 9+5/0", 9);
        worth("play 9+5%0", 9);
        worth("play 20+last*7/2", 17);
        worth("play 20+last*7%2", 19);
        worth("play 99999*99999*99999*99999*99999/99999/99999/99999/99999/99999", 1);
        worth("play 65536*65536*32768*2*65536+5", 5);
        worth("play 65536*65536*32768*65536/65536/65536/65536/16384+40", 38);
        worth("play 1 if 2<1;play 2 if 1<2;play 3", 2);
        worth("play 1 if 2<1;play 2 if 1>2", 1);
        worth("play 5;play 6", 5);
        worth("play 5 if 1<1", 1);
        worth("play 5 if 1<=1", 5);
        worth("play 5 if 1=1", 5);
        worth("play 5 if 1>=1", 5);
        worth("play 5 if 1>1", 1);
        worth("play 5 if 1<=2", 5);
        worth("play 5 if 2<=1", 1);
        worth("play 5 if 1>=2", 1);
        worth("play 5 if 2>=1", 5);
        worth("play 5 if not 1=1", 1);
        worth("play 5 if 1=1 and not 1=1 or 1=2", 1);
        worth("play 5 if [[not 1=2] and not [not 1=1]]", 5);
        worth("play 5 if 1=1 or 1=1 and 1=2", 5);
        worth("play 5 if [1=1 or 1=1] and 1=2", 1);
        worth("play 5 if 1=2 and 1=2 or 1=1", 5);
        worth("play 5 if not 1=2 and 1=2", 1);
        worth("play 5 if not [1=2 and 1=2]", 5);
        worth("play 5 if not not 1=1", 5);
        worth("play 5 if 1+1=2", 5);
    }

    private static void ruleWords() {
        worth("play places", 10);
        worth("play round+20", 20);
        worth("play guests", 3);
        worth("play chairs*10", 30);
        worth("play last+20", 19);
        worth("play beats+20", 20);
        worth("play fast", 5);
        worth("play slow+20", 21);
        Due.is("0 is the fastest", Due.by("party 9;chair 1;guest 1 4 1;guest 1 2 1", "play fast").round(), 4);
        Due.is("0 is the slowest", Due.by("party 9;chair 1;guest 1 2 1;guest 1 4 1", "play slow").round(), 2);
        Due.is("nobody moves", Due.by("party 9;chair 1;guest 1 0 1;guest 1 0 1", "play fast+9").round(), 9);
        Due.is("0 is no chair's place", Due.by("party 9;chair 1;guest 0 0 1;guest 0 0 1", "play near+9").round(), 9);
        worth("play near+20", 23);
        worth("play tired+20", 20);
        // behind a round of 1 beat: 0 at 3 goes to 4, 1 at 9 stays, 2 at 5 is out, for chair 0 is 2 away and
        // chair 1 is taken; the chair on which one sat last is taken away
        MusicChairs x = Due.at("party 10;chair 4;chair 9;guest 1 2 9;guest 4 5 9;guest 4 1 1");
        x.play(1);
        Due.is("who is in", x.count(6), 3);
        Due.is("what is there", x.count(7), 2);
        x.pace(2, 0);
        String[] rules = {"play round*7", "play last+9", "play beats+9", "play slow+9", "play near+9", "play 0+tired+9"};
        int[] due = {7, 11, 10, 11, 10, 10};
        for (int k = 0; k < rules.length; k++) {
            Due.is("rule", Due.rule(x, rules[k]), k);
            x.force(k);
            Due.is(rules[k], x.round(), due[k]);
            x.undo();
        }
    }

    private static void forces() {
        MusicChairs x = Due.at(SMALL);
        Due.is("none is", x.force(-1), -1);
        Due.is("no such rule", x.force(0), -2);
        Due.rule(x, "play 4");
        Due.rule(x, "play 5");
        Due.is("none is by itself", x.count(4), -1);
        Due.is("first", x.force(1), -1);
        Due.is("second", x.force(0), 1);
        Due.is("no such rule", x.force(2), -2);
        Due.is("no such rule", x.force(-2), -2);
        Due.is("it stays", x.count(4), 0);
        Due.is("round by it", x.round(), 4);
        x.undo();
        Due.is("undo leaves it", x.count(4), 0);
        Due.is("none again", x.force(-1), 0);
        Due.is("round without", x.round(), 8);
    }
}
