import java.util.ArrayList;
import java.util.List;

/** The bounds that the document names for texts: promises 1 to 6, and what Terms says of parties, rules and faults. */
public final class BoundTextTest {
    private static final String SIX_CHAIRS = ";chair 1;chair 2;chair 3;chair 4;chair 5;chair 6";
    private static final String VALUES = "5 places round guests chairs last beats fast slow near tired";
    private static final String SUMS = "+ - * / %";
    private static final String SIGNS = "< <= = >= >";
    private static final int[] NO_BLANKS = {0, 9, 10, 13, 31, 33, 127, 128, 160, 255};

    public static void main(String[] args) {
        newObject();
        bytesOfTheTape();
        bytesThatStay();
        highestByteFirst();
        ends();
        textOfAllBytes();
        places();
        placesInTheRing();
        chairsApart();
        paces();
        mostChairs();
        mostGuests();
        clausesOfAParty();
        firstAndOnce();
        begins();
        digits();
        marksOfAParty();
        whatCanStandInAParty();
        blanks();
        theEndOfAParty();
        firstFault();
        leastFault();
        mostRules();
        clausesOfARule();
        digitsOfARule();
        deep();
        deepNoMore();
        valuesAndFacts();
        words();
        marksOfARule();
        whatCanStandInARule();
        theEndOfARule();
        firstFaultOfARule();
        leastFaultOfARule();
        leastAndMostBeats();
        clausesThatHold();
        byZero();
        sixtyFourBits();
        lastOfNobody();
        placesAndRounds();
        guestsAndChairs();
        beatsOfTheLast();
        fastAndSlow();
        near();
        tired();
        forces();
        Due.end("BoundTextTest");
    }

    private static void party(String text, int guests) {
        Due.is("party '" + text + "'", Due.party(new MusicChairs(), text), guests);
    }

    private static void partyFault(String text, int place, int sort) {
        Twin.refusedText(text, MusicChairs::party, Due.fault(place, sort));
    }

    private static void rule(String text) {
        Due.is("rule '" + text + "'", Due.rule(new MusicChairs(), text), 0);
    }

    private static void ruleFault(String text, int place, int sort) {
        Twin.refusedText(text, MusicChairs::rule, Due.fault(place, sort));
    }

    /** The beats that a rule says at the begin of a party. */
    private static void worth(String rule, int beats) {
        Due.is(rule, Due.by(Twin.THREE, rule).round(), beats);
    }

    /** Promise 1: no party, no rules, none in force. */
    private static void newObject() {
        MusicChairs x = new MusicChairs();
        Due.is("no places", x.count(0), 0);
        Due.is("no rules", x.count(3), 0);
        Due.is("none in force", x.count(4), -1);
        Due.is("none was in force", x.force(-1), -1);
        Twin.refused("force(0)", MusicChairs::new, y -> y.force(0), -2);
        Twin.refused("undo", MusicChairs::new, MusicChairs::undo, -2);
        Twin.refused("round", MusicChairs::new, MusicChairs::round, -1);
        Twin.refusedOf("back", MusicChairs::new, MusicChairs::back, -1, 0, 1, 2, 3);
        Twin.refused("an empty tape is no party", MusicChairs::new, MusicChairs::party, Due.fault(0, 0));
        Twin.refused("an empty tape is no rule", MusicChairs::new, MusicChairs::rule, Due.fault(0, 0));
    }

    /** Promise 2: none comes, if it would have more than 400. */
    private static void bytesOfTheTape() {
        MusicChairs x = new MusicChairs();
        for (int k = 1; k <= 20; k++) {
            Due.is("feed", x.feed(k, k, k, k, k), 20 * k);
        }
        for (int size = 400; size > 380; size--) {
            Due.is("end", x.end(size), size);
            Due.is("feed behind " + size, x.feed(0, 0, 0, 0, 0), -1);
            Due.is("none comes", x.count(14), size);
        }
        Due.is("end", x.end(380), 380);
        Due.is("feed behind 380", x.feed(0, 0, 0, 0, 0), 400);
    }

    private static void bytesThatStay() {
        Twin.refused("feed beyond 400", Twin::full, x -> x.feed(-1, -1, -1, -1, -1), -1);
        Twin.Maker made = () -> {
            MusicChairs x = new MusicChairs();
            Due.tell(x, "party 7" + " ".repeat(373) + ";");
            return x;
        };
        Twin.refused("feed behind 381", made, x -> x.feed(-1, -1, -1, -1, -1), -1);
    }

    private static void highestByteFirst() {
        MusicChairs x = new MusicChairs();
        Due.tell(x, "party 4;chair 1;guest 2 3 4");
        Due.is("as it was told", x.party(), 1);
        Due.is("place", x.guest(0, 0), 2);
        Due.is("step", x.guest(0, 1), 3);
        Due.is("quick", x.guest(0, 2), 4);
        // the highest byte is 240, which makes the number negative; it is no blank, and nothing it could be else
        int blanks = 0x20202020;
        for (int at = 0; at < 20; at++) {
            int strange = blanks | 0xf0 << 24 - 8 * (at % 4);
            x.feed(at / 4 == 0 ? strange : blanks, at / 4 == 1 ? strange : blanks, at / 4 == 2 ? strange : blanks,
                at / 4 == 3 ? strange : blanks, at / 4 == 4 ? strange : blanks);
            Due.is("the byte at " + at, x.party(), Due.fault(at, 0));
        }
    }

    /** Promise 3: its first n bytes alone; nothing happens, if it has not so many, or n is below 0. */
    private static void ends() {
        Twin.refusedAll("end", Twin::midway, MusicChairs::end, -1, 7, 20, -1);
        Twin.refusedOf("end", Twin::full, MusicChairs::end, -1, 401, -1, Integer.MAX_VALUE, Integer.MIN_VALUE);
        Twin.refusedOf("end", MusicChairs::new, MusicChairs::end, -1, 1, -1);
        Due.is("end(0) of none", new MusicChairs().end(0), 0);
        MusicChairs x = Twin.midway();
        Due.is("end of all", x.end(6), 6);
        Due.is("all are there", x.rule(), 2);
        Due.tell(x, "party 24");
        Due.is("one less", x.end(7), 7);
        Due.is("what was cut off is gone", x.end(8), -1);
        Due.is("cut", x.party(), Due.fault(6, 1));
        Due.tell(x, "play 1 if 1<=2");
        Due.is("two less", x.end(12), 12);
        Due.is("what was cut off is no part of a sign", x.rule(), Due.fault(12, 0));
        Due.tell(x, "play guests");
        Due.is("one less", x.end(10), 10);
        Due.is("what was cut off is no part of a word", x.rule(), Due.fault(5, 0));
        Due.tell(x, "party 8;");
        Due.is("one less", x.end(7), 7);
        Due.is("feed comes behind them", x.feed(Due.word(";cha", 0), Due.word("ir 3", 0), 0, 0, 0), 27);
        Due.is("end", x.end(15), 15);
        Due.is("party 8;chair 3", x.party(), 0);
        Due.is("chairs", x.count(1), 1);
        Due.tell(x, "party 5");
        Due.is("end(0)", x.end(0), 0);
        Due.is("none is left", x.party(), Due.fault(0, 0));
    }

    /** A text of at most 400 bytes. */
    private static void textOfAllBytes() {
        String whole = "party 24" + " ".repeat(380) + ";guest 1 2 3";
        Due.is("400", whole.length(), 400);
        party(whole, 1);
        partyFault(whole.substring(0, 399) + "0", 399, 1);
        partyFault(whole.substring(0, 399) + "x", 399, 0);
        partyFault(whole.substring(0, 399) + " ", 400, 0);
        worth("play 1" + " ".repeat(392) + "+6", 7);
        ruleFault("play 1" + " ".repeat(393) + "+", 400, 0);
    }

    /** PLACES 4 to 24. */
    private static void places() {
        for (int n = 4; n <= 24; n++) {
            MusicChairs x = Due.at("party " + n);
            Due.is("places", x.count(0), n);
        }
        int[] wrong = {0, 1, 3, 25, 99, 99999};
        for (int n : wrong) {
            partyFault("party " + n, 6, 1);
        }
    }

    /** 0 to PLACES - 1. */
    private static void placesInTheRing() {
        for (int n : new int[] {4, 5, 10, 24}) {
            party("party " + n + ";chair 0;chair " + (n - 1), 0);
            party("party " + n + ";guest 0 0 1;guest " + (n - 1) + " 0 1", 2);
            String head = "party " + n + ";";
            partyFault(head + "chair " + n, head.length() + 6, 1);
            partyFault(head + "chair 99999", head.length() + 6, 1);
            partyFault(head + "guest " + n + " 0 1", head.length() + 6, 1);
            partyFault(head + "guest 99999 0 1", head.length() + 6, 1);
        }
    }

    /** A PLACE of no CHAIR told ahead. */
    private static void chairsApart() {
        party("party 9;chair 3;chair 4;chair 2", 0);
        party("party 9;guest 3 0 1;chair 3;guest 3 0 1", 2);
        partyFault("party 9;chair 3;chair 3", 22, 1);
        partyFault("party 9;chair 3;chair 03", 22, 1);
        partyFault("party 9;chair 0;chair 1;chair 2;chair 3;chair 4;chair 0", 54, 1);
        partyFault("party 9;chair 0;chair 1;chair 2;chair 3;chair 4;chair 4", 54, 1);
        // a chair of the party that was there is none told ahead
        MusicChairs x = Due.at("party 9;chair 3");
        Due.is("another party", Due.party(x, "party 9;chair 3"), 0);
    }

    /** STEP 0 to 5; QUICK 1 to 9. */
    private static void paces() {
        for (int step = 0; step <= 5; step++) {
            Due.is("step", Due.at("party 9;guest 1 " + step + " 1").guest(0, 1), step);
        }
        partyFault("party 9;guest 1 6 1", 16, 1);
        partyFault("party 9;guest 1 99999 1", 16, 1);
        for (int quick = 1; quick <= 9; quick++) {
            Due.is("quick", Due.at("party 9;guest 1 0 " + quick).guest(0, 2), quick);
        }
        partyFault("party 9;guest 1 0 0", 18, 1);
        partyFault("party 9;guest 1 0 10", 18, 1);
        partyFault("party 9;guest 1 0 99999", 18, 1);
    }

    /** CHAIRS 0 to 5, in the order told; a seventh CHAIR. */
    private static void mostChairs() {
        MusicChairs x = Due.at("party 24;chair 23;chair 0;chair 9;chair 8;chair 20;chair 1");
        int[] due = {23, 0, 9, 8, 20, 1};
        for (int c = 0; c < 6; c++) {
            Due.is("place", x.chair(c, 0), due[c]);
        }
        Due.is("chairs", x.count(1), 6);
        partyFault("party 9" + SIX_CHAIRS + ";chair 7", 56, 4);
        partyFault("party 9" + SIX_CHAIRS + ";guest 1 1 1; chair", 69, 4);
        party("party 9;guest 1 1 1" + SIX_CHAIRS + ";guest 1 1 1", 2);
    }

    /** GUESTS 0 to 6, in the order told, several at one PLACE as one likes; an eighth GUEST. */
    private static void mostGuests() {
        MusicChairs x = Due.at("party 4;guest 3 0 1;guest 3 1 2;guest 3 2 3;guest 3 3 4;guest 3 4 5;guest 3 5 6"
            + ";guest 3 0 7");
        for (int g = 0; g < 7; g++) {
            Due.is("place", x.guest(g, 0), 3);
            Due.is("step", x.guest(g, 1), g % 6);
            Due.is("quick", x.guest(g, 2), g + 1);
        }
        Due.is("guests", x.count(2), 7);
        partyFault("party 4" + ";guest 3 0 1".repeat(7) + ";guest 3 0 1", 92, 4);
        partyFault("party 4" + ";guest 3 0 1".repeat(7) + ";chair 1;  guest", 102, 4);
    }

    /** 40 can't be reached: 1 party, 6 chairs and 7 guests are 14, and the next is one too many of its own sort. */
    private static void clausesOfAParty() {
        String most = "party 9" + SIX_CHAIRS + ";guest 1 1 1".repeat(7);
        party(most, 7);
        partyFault(most + ";chair 8", most.length() + 1, 4);
        partyFault(most + ";guest 1 1 1", most.length() + 1, 4);
        partyFault(most + ";party 9", most.length() + 1, 4);
        partyFault(most + ";", most.length() + 1, 0);
    }

    /** Once, the first CLAUSE. */
    private static void firstAndOnce() {
        partyFault("chair 1;party 9", 0, 4);
        partyFault(" guest 1 1 1;party 9", 1, 4);
        partyFault("party 9;party 9", 8, 4);
        partyFault("party 9;chair 1; party", 17, 4);
    }

    /** Promise 4: in place of the one there was, with nothing that was; the RULE IN FORCE and x stay. */
    private static void begins() {
        MusicChairs x = Twin.full();
        Due.is("the same text", Due.party(x, Twin.SEVEN), 7);
        int[] due = {24, 6, 7, 6, 5, 0, 127, 63, 0, -1, 0, 0, 0, 2147483647, 0};
        for (int what = 0; what < due.length; what++) {
            Due.is("count(" + what + ")", x.count(what), due[what]);
        }
        MusicChairs fresh = Due.at(Twin.SEVEN);
        for (int g = 0; g < 7; g++) {
            for (int what = 0; what < 6; what++) {
                Due.is("guest(" + g + ", " + what + ")", x.guest(g, what), fresh.guest(g, what));
            }
        }
        for (int c = 0; c < 6; c++) {
            Due.is("there", x.chair(c, 1), 1);
        }
        Due.is("nothing to be undone", x.undo(), -2);
        Due.is("no notes: all rules and none", x.ruled(0), 7);
        Due.is("a smaller one", Due.party(x, "party 4"), 0);
        Due.is("no chair", x.chair(0, 0), -1);
        Due.is("no guest", x.guest(0, 0), -1);
        int[] less = {4, 0, 0, 6, 5, 0, 0, 0, 1, -1, 0, 0, 0, 2147483647, 0};
        for (int what = 0; what < less.length; what++) {
            Due.is("count(" + what + ")", x.count(what), less[what]);
        }
        Due.is("images stay", x.back(3), 2);
        Due.is("images stay", x.count(2), 7);
    }

    /** A NUMBER of more digits than 5. */
    private static void digits() {
        party("party 00004;chair 00003;guest 00003 00005 00009", 1);
        partyFault("party 000004", 6, 1);
        partyFault("party 4;chair 000003", 14, 1);
        partyFault("party 4;guest 000003 0 1", 14, 1);
        partyFault("party 4;guest 3 000000 1", 16, 1);
        partyFault("party 4;guest 3 0 000001", 18, 1);
        // so many digits that they are 4 again in 32 and in 64 bits
        partyFault("party 4294967300", 6, 1);
        partyFault("party 18446744073709551620", 6, 1);
        partyFault("party " + "0".repeat(390) + "4", 6, 1);
    }

    /** A byte or WORD that can't stand there. */
    private static void marksOfAParty() {
        partyFault("places 9", 0, 0);
        partyFault("part 9", 0, 0);
        partyFault("partyy 9", 0, 0);
        partyFault("PARTY 9", 0, 0);
        partyFault("9", 0, 0);
        partyFault(";party 9", 0, 0);
        partyFault("party party 9", 6, 0);
        partyFault("party x", 6, 0);
        partyFault("party +9", 6, 0);
        partyFault("party 9,chair 1", 7, 0);
        partyFault("party 9 chair 1", 8, 0);
        partyFault("party 9;;chair 1", 8, 0);
        partyFault("party 9;play 1", 8, 0);
        partyFault("party 9;chair chair", 14, 0);
        partyFault("party 9;chair 1 1", 16, 0);
        partyFault("party 9;guest 1;", 15, 0);
        partyFault("party 9;guest 1 1;", 17, 0);
        partyFault("party 9;guest 1 1 1 1", 20, 0);
        partyFault("party 9;guest 1 1-1", 17, 0);
    }

    /** Every word, mark and byte behind this: those that can't stand there are a fault there, of sort 0. */
    private static void standBehind(String head, String right, Twin.Call call) {
        List<String> all = new ArrayList<>(List.of((VALUES + " " + SUMS + " " + SIGNS
            + " play if or and not party chair guest ; [ ] x partys playing").split(" ")));
        for (int one = 0; one < 256; one++) {
            boolean isSmall = one >= 'a' && one <= 'z' || one >= '0' && one <= '9';
            if (one != ' ' && !isSmall && "+-*/%<=>;[]".indexOf(one) < 0) {
                all.add("" + (char) one);
            }
        }
        List<String> can = List.of(right.split(" "));
        for (String one : all) {
            String text = head + one;
            MusicChairs x = new MusicChairs();
            Due.tell(x, text);
            int got = call.on(x);
            if (can.contains(one)) {
                Due.holds("'" + text + "' can stand: " + got, got >= 0 || got == Due.fault(text.length(), 0));
            } else {
                Due.is("'" + text + "'", got, Due.fault(head.length(), 0));
            }
        }
    }

    /** Clauses that are too many or ahead of the party are of another sort: they stand in firstAndOnce. */
    private static void whatCanStandInAParty() {
        String[][] rows = {{"party ", "5"}, {"party 9 ", ";"}, {"party 9;chair ", "5"}, {"party 9;chair 1 ", ";"},
            {"party 9;guest ", "5"}, {"party 9;guest 1 ", "5"}, {"party 9;guest 1 1 ", "5"}, {"party 9;guest 1 1 1 ", ";"},
            {"party 9;chair 1;guest 1 1 1 ", ";"}};
        for (String[] row : rows) {
            standBehind(row[0], row[1], MusicChairs::party);
        }
        for (String word : (VALUES + " play if or and not " + SUMS + " " + SIGNS + " ; [ ] x").split(" ")) {
            partyFault(word, 0, 0);
            partyFault("party 9; " + word, 9, 0);
        }
    }

    private static void whatCanStandInARule() {
        String test = VALUES + " not [";
        String joined = SUMS + " and or ";
        String[][] rows = {{"", "play"}, {"play 1; ", "play"}, {"play 1 if 1<2; ", "play"}, {"play ", VALUES},
            {"play 1+ ", VALUES}, {"play 1*round% ", VALUES}, {"play 1 ", SUMS + " if ;"}, {"play 1+2 ", SUMS + " if ;"},
            {"play 1 if ", test}, {"play 1 if not ", test}, {"play 1 if [ ", test}, {"play 1 if not [ ", test},
            {"play 1 if [not ", test}, {"play 1 if 1<2 and ", test}, {"play 1 if 1<2 or ", test}, {"play 1 if [1<2 or ", test},
            {"play 1 if 1 ", SUMS + " " + SIGNS}, {"play 1 if [1 ", SUMS + " " + SIGNS},
            {"play 1 if not 1+1 ", SUMS + " " + SIGNS}, {"play 1 if 1<2 and 1 ", SUMS + " " + SIGNS},
            {"play 1 if 1< ", VALUES}, {"play 1 if 1>= ", VALUES}, {"play 1 if 1+ ", VALUES}, {"play 1 if 1<2- ", VALUES},
            {"play 1 if 1<2 ", joined + ";"}, {"play 1 if not 1<2 ", joined + ";"}, {"play 1 if [1<2] and 1<2 ", joined + ";"},
            {"play 1 if [1<2 ", joined + "]"}, {"play 1 if not [not 1<2 ", joined + "]"}, {"play 1 if [1<2 and 1<2 ", joined + "]"},
            {"play 1 if [1<2] ", "and or ;"}, {"play 1 if not [1<2] ", "and or ;"}, {"play 1 if [[1<2]] ", "and or ;"},
            {"play 1 if [[1<2] ", "and or ]"}, {"play 1 if [1<2 or [1<2] ", "and or ]"}};
        for (String[] row : rows) {
            standBehind(row[0], row[1], MusicChairs::rule);
        }
    }

    /** Blanks (32) stand between as one likes; no other byte does. */
    private static void blanks() {
        party("party9;chair1;guest1 1 1", 1);
        party("   party   9   ;   chair   1   ;   guest   1   1   1   ", 1);
        for (int other : NO_BLANKS) {
            partyFault("party" + (char) other + "9", 5, 0);
            partyFault((char) other + "party 9", 0, 0);
            partyFault("party 9" + (char) other, 7, 0);
            ruleFault("play 1" + (char) other, 6, 0);
        }
        rule("play1if1<2or2<1;play2");
        rule("   play   1   if   1   <=   2   or   not   [   2   <   1   ]   ;   play   2   ");
        partyFault("party 2 4", 6, 1);
        partyFault("par ty 9", 0, 0);
        ruleFault("play 1 if 1< =2", 13, 0);
        ruleFault("play 1 if 1> =2", 13, 0);
    }

    /** The end, behind the last byte, blanks among them. */
    private static void theEndOfAParty() {
        partyFault("", 0, 0);
        partyFault("  ", 2, 0);
        partyFault("party", 5, 0);
        partyFault("party  ", 7, 0);
        partyFault("party 9;", 8, 0);
        partyFault("party 9;  ", 10, 0);
        partyFault("party 9;chair", 13, 0);
        partyFault("party 9;guest", 13, 0);
        partyFault("party 9;guest 1", 15, 0);
        partyFault("party 9;guest 1 1 ", 18, 0);
    }

    /** The first along the text. */
    private static void firstFault() {
        partyFault("party 3;party 9", 6, 1);
        partyFault("party 9;party x", 8, 4);
        partyFault("party 9;guest 9 6 0 x", 14, 1);
        partyFault("party 9;guest 8 6 0 x", 16, 1);
        partyFault("party 9;guest 8 5 0 x", 18, 1);
        partyFault("party 9;guest 8 5 1 x", 20, 0);
        partyFault("chair x;what", 0, 4);
    }

    /** Of one place the least: what is no clause at all is none too many. */
    private static void leastFault() {
        partyFault("party 9" + SIX_CHAIRS + ";chairs 7", 56, 0);
        partyFault("party 9" + ";guest 1 1 1".repeat(7) + ";guests 1 1 1", 92, 0);
        partyFault("party 9;party9", 8, 4);
        partyFault("party 9;partyparty", 8, 0);
        partyFault("chair", 0, 4);
        partyFault("chairs", 0, 0);
    }

    /** Promise 5, RULES 0 to 5: nothing happens, there are 6. */
    private static void mostRules() {
        MusicChairs x = new MusicChairs();
        for (int r = 0; r < 6; r++) {
            Due.is("rule", Due.rule(x, "play " + r), r);
            Due.is("the tape is empty then", x.count(14), 0);
            Due.is("rules", x.count(3), r + 1);
        }
        Twin.refused("a seventh", Twin::full, MusicChairs::rule, -1);
        Twin.Maker right = () -> {
            MusicChairs full = Twin.full();
            Due.tell(full, "play 1");
            return full;
        };
        Twin.refused("a seventh without a fault", right, MusicChairs::rule, -1);
        MusicChairs y = Due.at(Twin.THREE);
        for (int r = 0; r < 5; r++) {
            Due.rule(y, "play " + r);
        }
        Due.is("one with a fault is none", Due.rule(y, "play"), Due.fault(4, 0));
        Due.is("so there is a sixth", Due.rule(y, "play 1"), 5);
    }

    /** 12 CLAUSES at most. */
    private static void clausesOfARule() {
        worth("play 1 if 1>2;".repeat(11) + "play 9", 9);
        ruleFault("play 1 if 1>2;".repeat(12) + "play 9", 12 * 14, 4);
        ruleFault("play 1;".repeat(12) + "  play", 12 * 7 + 2, 4);
    }

    /** 1 to 5 digits. */
    private static void digitsOfARule() {
        worth("play 99999-99960", 39);
        worth("play 00007", 7);
        MusicChairs x = Twin.midway();
        Due.is("0 is a number", Due.rule(x, "play 0+9+00000"), 2);
        x.force(2);
        Due.is("0 is a number, when some are tired", x.round(), 9);
        ruleFault("play 100000", 5, 1);
        ruleFault("play 000007", 5, 1);
        ruleFault("play 1+100000", 7, 1);
        ruleFault("play 1 if 100000>1", 10, 1);
        ruleFault("play 1 if 1>000001", 12, 1);
        ruleFault("play 4294967303", 5, 1);
        ruleFault("play 1 2", 7, 0);
    }

    /** [ and not lie within one another 10 deep at most. */
    private static void deep() {
        worth("play 7 if " + "[".repeat(10) + "1<2" + "]".repeat(10), 7);
        worth("play 7 if " + "not ".repeat(10) + "1<2", 7);
        worth("play 7 if " + "[not ".repeat(5) + "1>2" + "]".repeat(5), 7);
        ruleFault("play 7 if " + "[".repeat(11) + "1<2" + "]".repeat(11), 20, 2);
        ruleFault("play 7 if " + "not ".repeat(11) + "1<2", 50, 2);
        ruleFault("play 7 if " + "[not ".repeat(5) + "[1>2]" + "]".repeat(5), 35, 2);
        ruleFault("play 7 if " + "[not ".repeat(5) + "not 1>2" + "]".repeat(5), 35, 2);
        ruleFault("play 7 if " + "not [".repeat(5) + "not", 35, 2);
        ruleFault("play 7 if 1<2 and " + "[".repeat(10) + "1<2 or [", 18 + 17, 2);
        ruleFault("play 7;play 7 if " + "[".repeat(11), 27, 2);
    }

    /** What is closed, and a not whose fact is read, is not around what comes behind. */
    private static void deepNoMore() {
        String deepest = "[".repeat(10) + "1<2" + "]".repeat(10);
        worth("play 7 if " + deepest + " and " + deepest, 7);
        worth("play 7 if " + deepest + " or " + deepest + ";play 8 if " + deepest, 7);
        String nots = "not ".repeat(10) + "1<2";
        worth("play 7 if " + nots + " and " + nots, 7);
        worth("play 7 if 1>2 or " + nots + ";play 8 if " + nots, 7);
        worth("play 7 if [1<2]" + " and [1<2]".repeat(12), 7);
        worth("play 7 if not 1>2" + " and not 1>2".repeat(12), 7);
        worth("play 7 if [not 1>2 and " + "[".repeat(9) + "1<2" + "]".repeat(10), 7);
        worth("play 7 if not [1>2] and " + deepest, 7);
        ruleFault("play 7 if [not 1>2 and " + "[".repeat(10), 32, 2);
        ruleFault("play 7 if [1<2 and [1<2] and " + "[".repeat(10), 29 + 9, 2);
    }

    /** At most 60 VALUES and FACTS made of a SIGN, together: a VALUE at its first byte, a FACT at its SIGN. */
    private static void valuesAndFacts() {
        worth("play 1" + "+1".repeat(59), 60);
        ruleFault("play 1" + "+1".repeat(59) + " + places", 5 + 119 + 3, 3);
        ruleFault("play 1" + "+1".repeat(59) + "+12345", 5 + 119 + 1, 3);
        String nineteen = " if 1<2" + " and 1<2".repeat(18);
        worth("play 1+1+7" + nineteen, 9);
        ruleFault("play 1+1+7" + nineteen + " and 1<2", 10 + 7 + 18 * 8 + 5, 3);
        ruleFault("play 1+8" + nineteen + " and 1 <2", 8 + 7 + 18 * 8 + 7, 3);
        ruleFault("play 9" + nineteen + " and 1< 2", 6 + 7 + 18 * 8 + 8, 3);
        // brackets, and, or, not are no facts of their own
        worth("play 1+1+7 if not [1>2]" + " and [1<2]".repeat(18), 9);
        // of the whole text
        rule("play 1" + "+1".repeat(29) + ";play 1" + "+1".repeat(29));
        ruleFault("play 1" + "+1".repeat(29) + ";play 1" + "+1".repeat(30), 5 + 59 + 6 + 59 + 1, 3);
    }

    /** WORDS: small letters, as far as these go on. */
    private static void words() {
        String[] right = {"places", "round", "guests", "chairs", "last", "beats", "fast", "slow", "near", "tired"};
        for (String word : right) {
            rule("play " + word);
            rule("play 5+" + word + "*5");
            ruleFault("play " + word + "a", 5, 0);
            ruleFault("play " + word + "z", 5, 0);
            ruleFault("play " + word.substring(1), 5, 0);
            ruleFault("play " + word.substring(0, word.length() - 1), 5, 0);
            ruleFault("play " + word + "A", 5 + word.length(), 0);
            ruleFault("play " + word + "`", 5 + word.length(), 0);
            ruleFault("play " + word + "{", 5 + word.length(), 0);
            ruleFault("play " + word + "5", 5 + word.length(), 0);
            partyFault("party " + word, 6, 0);
        }
        ruleFault("play Places", 5, 0);
        ruleFault("play party", 5, 0);
        ruleFault("play guest", 5, 0);
        ruleFault("play play", 5, 0);
        ruleFault("playround", 0, 0);
        ruleFault("play 1 ifround<2", 7, 0);
        ruleFault("play 1 if notround<2", 10, 0);
        ruleFault("play 1 if round<guestsand 1<2", 16, 0);
    }

    private static void marksOfARule() {
        ruleFault("9", 0, 0);
        ruleFault("if 1<2", 0, 0);
        ruleFault("play +1", 5, 0);
        ruleFault("play -1", 5, 0);
        ruleFault("play not 1", 5, 0);
        ruleFault("play [1]", 5, 0);
        ruleFault("play 1 and 2", 7, 0);
        ruleFault("play 1 <2", 7, 0);
        ruleFault("play 1]", 6, 0);
        ruleFault("play 1^2", 6, 0);
        ruleFault("play 1 if 1", 11, 0);
        ruleFault("play 1 if 1+1;play 1", 13, 0);
        ruleFault("play 1 if 1!=2", 11, 0);
        ruleFault("play 1 if 1<>2", 12, 0);
        ruleFault("play 1 if 1=>2", 12, 0);
        ruleFault("play 1 if 1<2=1", 13, 0);
        ruleFault("play 1 if 1<2]", 13, 0);
        ruleFault("play 1 if [1+1]<2", 14, 0);
        ruleFault("play 1 if [1<2 1", 15, 0);
        ruleFault("play 1 if [1<2]2", 15, 0);
        ruleFault("play 1 if [1<2]+2<3", 15, 0);
        ruleFault("play 1 if [1<2]<3", 15, 0);
        ruleFault("play 1 if 1<2 not 1<2", 14, 0);
        ruleFault("play 1 if or 1<2", 10, 0);
        ruleFault("play 1 if 1<2 if 1<2", 14, 0);
        ruleFault("play 1;chair 1", 7, 0);
    }

    private static void theEndOfARule() {
        ruleFault("", 0, 0);
        ruleFault("   ", 3, 0);
        ruleFault("play", 4, 0);
        ruleFault("play  ", 6, 0);
        ruleFault("play 1;", 7, 0);
        ruleFault("play 1; ", 8, 0);
        ruleFault("play 1*", 7, 0);
        ruleFault("play 1 if", 9, 0);
        ruleFault("play 1 if 1 ", 12, 0);
        ruleFault("play 1 if 1<", 12, 0);
        ruleFault("play 1 if 1<=", 13, 0);
        ruleFault("play 1 if not ", 14, 0);
        ruleFault("play 1 if [", 11, 0);
        ruleFault("play 1 if [1<2", 14, 0);
        ruleFault("play 1 if [[1<2]", 16, 0);
        ruleFault("play 1 if 1<2 and", 17, 0);
        ruleFault("play 1 if 1<2 or", 16, 0);
        ruleFault("play 1 if [1<2;play 1", 14, 0);
    }

    private static void firstFaultOfARule() {
        ruleFault("play 100000+x", 5, 1);
        ruleFault("play x+100000", 5, 0);
        ruleFault("play 1 if " + "[".repeat(11) + "100000", 20, 2);
        ruleFault("play 1 if " + "[".repeat(10) + "100000[", 20, 1);
        ruleFault("play 1" + "+1".repeat(60) + "+x", 125, 3);
        ruleFault("play 1" + "+1".repeat(58) + "+x+1+1", 123, 0);
        ruleFault("play 1;".repeat(12) + "play x", 84, 4);
        ruleFault("play 1;".repeat(11) + "play x;play 1", 82, 0);
    }

    /** Of one place the least. */
    private static void leastFaultOfARule() {
        ruleFault("play 1" + "+1".repeat(59) + "+123456", 125, 1);
        ruleFault("play 1" + "+1".repeat(59) + "+place", 125, 0);
        ruleFault("play 1" + "+1".repeat(59) + "+", 125, 0);
        ruleFault("play 1+8 if 1<2" + " and 1<2".repeat(18) + " and 1;", 8 + 7 + 18 * 8 + 6, 0);
        ruleFault("play 1+8 if 1<2" + " and 1<2".repeat(18) + " and 1", 8 + 7 + 18 * 8 + 6, 0);
        ruleFault("play 1;".repeat(12) + "plays 1", 84, 0);
        ruleFault("play 1;".repeat(12), 84, 0);
        ruleFault("play 1 if " + "[".repeat(10) + "1<[", 22, 0);
        ruleFault("play 1 if " + "[".repeat(10) + "1 not", 22, 0);
        ruleFault("play 1 if " + "[".repeat(10) + "nothing", 20, 0);
    }

    /** 1 at least and 60 at most; without a RULE 8. */
    private static void leastAndMostBeats() {
        worth("play 0", 1);
        worth("play 1", 1);
        worth("play 2", 2);
        worth("play 59", 59);
        worth("play 60", 60);
        worth("play 61", 60);
        worth("play 99999", 60);
        worth("play 0-1", 1);
        worth("play 0-99999", 1);
        Due.is("without a rule", Due.at(Twin.THREE).round(), 8);
        MusicChairs x = Due.by(Twin.THREE, "play 61");
        x.round();
        Due.is("beats", x.count(10), 60);
        // so many were played indeed: 60 bring guest 2 back to 9, whence chair 0 is nearest
        Due.is("0 stays at 2, 2 goes from 9 to 0", x.guest(2, 0), 0);
    }

    /** The first CLAUSE without a TEST, or whose TEST holds; 0 without. */
    private static void clausesThatHold() {
        worth("play 5 if 1>2;play 6 if 1<2;play 7", 6);
        worth("play 5 if 1>2;play 6;play 7 if 1<2", 6);
        worth("play 5 if 1>2", 1);
        worth("play 5 if 1>2;play 6 if 2<1", 1);
        worth("play 5 if 3<3;play 6 if 3<=3", 6);
        worth("play 5 if 3>3;play 6 if 3>=3", 6);
        worth("play 5 if 3=2;play 6 if 3=3", 6);
        worth("play 5 if 3<=2;play 6 if 2>=3;play 7 if 2<=3", 7);
        String[] right = {"2<3", "2<=3", "3<=3", "3=3", "3>=3", "3>=2", "3>2"};
        String[] wrong = {"3<2", "3<3", "3<=2", "3=2", "2=3", "2>=3", "3>3", "2>3"};
        for (String one : right) {
            for (String other : wrong) {
                worth("play 5 if " + other + ";play 6 if " + one, 6);
                worth("play 5 if not " + one + ";play 6 if not " + other, 6);
                worth("play 5 if " + one + " and " + other + ";play 6 if " + other + " or " + one, 6);
                worth("play 5 if not [" + other + " or " + one + "];play 6 if not [" + one + " and " + other + "]", 6);
                worth("play 5 if " + other + " and " + other + " or " + other + ";play 6 if " + one + " or " + other
                    + " and " + other, 6);
                worth("play 5 if [" + one + " or " + one + "] and " + other + ";play 6 if not " + other + " and " + one, 6);
                worth("play 5 if not " + one + " or " + other + ";play 6 if not not " + one, 6);
            }
        }
    }

    /** / is towards 0, % its rest, both 0 by 0. */
    private static void byZero() {
        worth("play 9+7/0", 9);
        worth("play 9+7%0", 9);
        worth("play 9+0/0", 9);
        worth("play 9+0%0", 9);
        worth("play 9+last/0", 9);
        worth("play 9+7/0*5", 9);
        worth("play 9+7/2", 12);
        worth("play 9+last*7/2", 6);
        worth("play 9+last*7%2", 8);
        worth("play 9+7%last", 9);
        worth("play 20+7/last", 13);
        worth("play 9+1/2", 9);
        worth("play 9+last/2", 9);
    }

    /** All goes round in 64 bits. */
    private static void sixtyFourBits() {
        String least = "65536*65536*65536*32768";
        worth("play " + least, 1);
        worth("play " + least + "-1", 60);
        worth("play " + least + "+" + least + "+7", 7);
        worth("play 65536*65536*65536*65536+7", 7);
        worth("play " + least + "/last", 1);
        worth("play " + least + "/last-1", 60);
        worth("play " + least + "%last+7", 7);
        worth("play 7 if " + least + "<0", 7);
        worth("play 7 if " + least + "-1>0", 7);
        worth("play 7 if 0-" + least + "=" + least, 7);
        // no 32 bits
        worth("play 65536*65536+7", 60);
        worth("play 0-65536*65536+7", 1);
        worth("play 7 if 65536*65536>65535*65535", 7);
        worth("play 65536*65536*65536/65536/65536/8192", 8);
        worth("play 7 if not 65536*65536=0", 7);
    }

    /** last: -1 if nobody was; else also guest 0. */
    private static void lastOfNobody() {
        worth("play 20+last", 19);
        MusicChairs x = Due.by("party 8;chair 0;chair 4;guest 2 0 1;guest 0 0 1;guest 4 0 1", "play 20+last");
        Due.is("nobody was", x.round(), 19);
        Due.is("0 is out", x.count(9), 0);
        Due.is("0 was", x.round(), 20);
    }

    /** What a new rule says now; the round that is played to see it is undone. */
    private static int says(MusicChairs x, String rule, int due) {
        int number = x.count(3);
        Due.is(rule, Due.rule(x, rule), number);
        saysBy(x, number, due);
        return number;
    }

    private static void saysBy(MusicChairs x, int number, int due) {
        int was = x.force(number);
        Due.is("beats by rule " + number, x.round(), due);
        x.undo();
        x.force(was);
    }

    /** places: 4 to 24; round: 0 at first, counted on from what was played. */
    private static void placesAndRounds() {
        for (int n : new int[] {4, 5, 23, 24}) {
            says(Due.at("party " + n + ";chair 0;guest 1 0 1;guest 2 0 1"), "play places", n);
        }
        MusicChairs x = Due.by("party 24;chair 0;chair 1;chair 2;chair 3;chair 4;chair 5;guest 5 0 1;guest 6 0 1",
            "play 20+round");
        for (int k = 0; k < 6; k++) {
            Due.is("round " + k, x.round(), 20 + k);
        }
        Due.is("over", x.round(), 0);
        // rounds that are asked count on: by one beat, then six, guest 1 comes from 1 to 3, runs to 0, comes to 12
        MusicChairs y = Due.by("party 24;chair 12;chair 0;guest 12 0 1;guest 1 0 1", "play 1+round*5");
        y.pace(1, 2);
        Due.is("round 1 is asked", y.ahead(1, 2, 0), 12);
        Due.is("round 0 was played", y.round(), 1);
        Due.is("round 1 is played", y.round(), 6);
        Due.is("as it was asked", y.guest(1, 0), 12);
    }

    /** guests: those who are IN, 2 to 7; chairs: those that are THERE, 1 to 6. */
    private static void guestsAndChairs() {
        says(Due.at("party 9;chair 1;guest 0 0 1;guest 2 0 1"), "play 10*guests+chairs", 21);
        says(Due.at("party 9" + SIX_CHAIRS + ";guest 0 0 1".repeat(5)), "play 10*guests+chairs", 56);
        says(Due.at("party 9;chair 1" + ";guest 0 0 1".repeat(7)), "play 7*guests+chairs", 50);
        MusicChairs x = Twin.midway();
        says(x, "play 10*guests+chairs", 21);
        x.bring(1);
        says(x, "play 10*guests+chairs", 22);
        says(Due.at(Twin.SEVEN), "play 7*guests+chairs", 55);
    }

    /** beats: of the last ROUND, 0 at first, 1 to 60. */
    private static void beatsOfTheLast() {
        says(Due.at(Twin.THREE), "play 20+beats", 20);
        for (int beats : new int[] {1, 2, 29, 39, 40}) {
            MusicChairs x = Due.at("party 24;chair 0;chair 12;guest 0 0 1;guest 12 0 1");
            x.play(beats);
            says(x, "play 20+beats", 20 + beats);
        }
        MusicChairs x = Due.at("party 24;chair 0;chair 12;guest 0 0 1;guest 12 0 1");
        x.play(60);
        says(x, "play beats-20", 40);
        x.undo();
        says(x, "play 20+beats", 20);
    }

    /** fast, slow: the greatest, the least STEP of those IN, 0 to 5. */
    private static void fastAndSlow() {
        String[] rows = {"0 0", "5 5", "0 5", "5 0", "1 4", "4 1", "2 3"};
        for (String row : rows) {
            int one = row.charAt(0) - '0';
            int other = row.charAt(2) - '0';
            MusicChairs x = Due.at("party 9;chair 1;guest 0 " + one + " 1;guest 2 " + other + " 1");
            says(x, "play 6*fast+slow+1", 6 * Math.max(one, other) + Math.min(one, other) + 1);
        }
        says(Due.at(Twin.SEVEN), "play 6*fast+slow+1", 31);
        // 0 has 1, 2 has 3; 1, who is out, does not matter
        MusicChairs x = Twin.midway();
        int rule = says(x, "play 6*fast+slow+1", 20);
        x.pace(1, 5);
        saysBy(x, rule, 20);
        x.pace(1, 0);
        saysBy(x, rule, 20);
        x.pace(2, 5);
        saysBy(x, rule, 32);
        x.pace(0, 0);
        saysBy(x, rule, 31);
    }

    /** near: how many IN are at the PLACE of a CHAIR that is THERE; the first and the last PLACE among them. */
    private static void near() {
        says(Due.at("party 9;chair 1;guest 0 0 1;guest 2 0 1"), "play 20+near", 20);
        says(Due.at("party 24;chair 0;guest 0 0 1;guest 23 0 1"), "play 20+near", 21);
        says(Due.at("party 24;chair 23;guest 0 0 1;guest 23 0 1"), "play 20+near", 21);
        says(Due.at("party 24;chair 23;chair 0;guest 0 0 1;guest 23 0 1"), "play 20+near", 22);
        says(Due.at("party 24;chair 5" + ";guest 5 0 1".repeat(7)), "play 20+near", 27);
        says(Due.at(Twin.SEVEN), "play 20+near", 26);
        // 1 sat last, so that chair 1 is away under them; 2 is out at the place of chair 0
        MusicChairs x = Due.at("party 24;chair 0;chair 12;guest 0 0 1;guest 12 0 1;guest 0 0 1");
        says(x, "play 20+near", 23);
        x.play(1);
        Due.is("0 and 1 are in", x.count(6), 3);
        Due.is("chair 0 is there", x.count(7), 1);
        says(x, "play 20+near", 21);
        x.bring(1);
        says(x, "play 20+near", 22);
    }

    /** tired: how TIRED those IN are, together. */
    private static void tired() {
        says(Due.at(Twin.THREE), "play 20+tired", 20);
        MusicChairs x = Twin.midway();
        says(x, "play 20+tired", 22);
        // 2 is tired and out behind the second round; 0 and 1 are tired twice
        MusicChairs z = Due.at("party 24;chair 0;chair 8;chair 16;guest 0 1 1;guest 8 2 1;guest 16 3 1");
        z.play(1);
        says(z, "play 20+tired", 23);
        z.play(1);
        Due.is("0 and 1 are in", z.count(6), 3);
        Due.is("2 was tired", z.guest(2, 3), 1);
        says(z, "play 20+tired", 24);
        // both sat, and neither had to run
        MusicChairs still = Due.at("party 24;chair 0;chair 12;guest 0 0 1;guest 12 0 1");
        still.play(1);
        Due.is("0 sat", still.guest(0, 4), 1);
        says(still, "play 20+tired", 20);
    }

    /** Promise 6: nothing happens, if there is none such. */
    private static void forces() {
        Twin.refusedAll("force", Twin::midway, MusicChairs::force, -2, 2, 3);
        Twin.refusedAll("force", Twin::full, MusicChairs::force, -2, 6, 7);
        Twin.refusedAll("force", MusicChairs::new, MusicChairs::force, -2, 0);
        MusicChairs x = Twin.full();
        int was = 5;
        for (int r = -1; r < 6; r++) {
            Due.is("force(" + r + ")", x.force(r), was);
            Due.is("in force", x.count(4), r);
            was = r;
        }
        Due.is("none", x.force(-1), 5);
        Due.is("8 without", x.round() == 0 ? 8 : x.count(10), 8);
    }
}
