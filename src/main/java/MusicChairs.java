import java.util.Arrays;

/** Chairs to music: parties and rules told as texts, rounds by hand, and what can be asked of them. */
public final class MusicChairs {
    /** None. */
    public static final int NONE = -1;

    private static final int MOST_BYTES = 400;
    private static final int MOST_CHAIRS = 6;
    private static final int MOST_GUESTS = 7;
    private static final int MOST_RULES = 6;
    private static final int MOST_NOTES = 10;
    private static final int MOST_ACTS = 20;
    private static final int MOST_IMAGES = 4;
    private static final int MOST_BEATS = 60;
    private static final int MOST_TIRED = 30;
    private static final int MOST_SAT = 999;
    private static final int LAST_ROUND = 999;
    private static final int LAST_NOTED = 20;
    private static final int FURTHEST = 40;
    private static final int LONGEST_ASKED = 20;
    private static final int LONGEST_ROW = 4;
    private static final int ROW_BEATS = 6;
    private static final int MOST_TIME = 999;
    private static final int MOST_PENCE = 9999;
    private static final int PACES = 6;
    private static final int QUICKEST = 9;
    private static final int BEATS_WITHOUT_RULE = 8;

    private final Tape tape = new Tape();
    private final PartyReader partyReader = new PartyReader(tape);
    private final RuleReader ruleReader = new RuleReader(tape);
    private final Rule[] rules = new Rule[MOST_RULES];
    private int ruleCount = 0;
    private final Book book = new Book();
    private final Book[] images = new Book[MOST_IMAGES];
    private final Game game = new Game();
    private final Forecast forecast = new Forecast(game);
    private final Evidence evidence = new Evidence(game);
    private final Seats seats = new Seats();

    /** No party, no rules, none in force. */
    public MusicChairs() {
    }

    /** Twenty bytes come behind the tape. */
    public int feed(int a, int b, int c, int d, int e) {
        if (tape.size + 20 > MOST_BYTES) {
            return NONE;
        }
        tape.append(a);
        tape.append(b);
        tape.append(c);
        tape.append(d);
        tape.append(e);
        return tape.size;
    }

    /** The tape has its first n bytes alone. */
    public int end(int n) {
        if (n < 0 || n > tape.size) {
            return NONE;
        }
        tape.size = n;
        return n;
    }

    /** The tape is the party. */
    public int party() {
        int fault = partyReader.read();
        tape.size = 0;
        if (fault != 0) {
            return -2 - fault;
        }
        book.startParty(partyReader.draft);
        return book.now.guests;
    }

    /** The tape is a rule. */
    public int rule() {
        if (ruleCount >= MOST_RULES) {
            return NONE;
        }
        int fault = ruleReader.read();
        tape.size = 0;
        if (fault != 0) {
            return -2 - fault;
        }
        rules[ruleCount] = ruleReader.made();
        ruleCount++;
        return ruleCount - 1;
    }

    /** A rule is in force. */
    public int force(int rule) {
        if (rule < NONE || rule >= ruleCount) {
            return -2;
        }
        int was = book.force;
        book.force = rule;
        return was;
    }

    /** What a chair is. */
    public int chair(int chair, int what) {
        Hall now = book.now;
        if (!now.hasChair(chair)) {
            return NONE;
        }
        switch (what) {
            case 0: return now.chairPlace[chair];
            case 1: return now.there >> chair & 1;
            default: return NONE;
        }
    }

    /** What a guest is. */
    public int guest(int guest, int what) {
        Hall now = book.now;
        if (!now.hasGuest(guest)) {
            return NONE;
        }
        switch (what) {
            case 0: return now.place[guest];
            case 1: return now.step[guest];
            case 2: return now.quick[guest];
            case 3: return now.tired[guest];
            case 4: return now.sat[guest];
            case 5: return now.in >> guest & 1;
            default: return NONE;
        }
    }

    /** The time of a guest for a chair. */
    public int time(int guest, int chair) {
        Hall now = book.now;
        return now.hasGuest(guest) && now.hasChair(chair) ? now.timeFor(guest, chair) : NONE;
    }

    /** A round. */
    public int round() {
        if (!book.now.isTold() || book.now.round >= LAST_ROUND) {
            return NONE;
        }
        book.remember();
        game.roundBy(book.now, ruleInForce());
        return book.now.beats;
    }

    /** A round of told beats. */
    public int play(int beats) {
        Hall now = book.now;
        if (now.isOver() || now.round >= LAST_ROUND || beats < 1 || beats > MOST_BEATS) {
            return NONE;
        }
        book.remember();
        return game.roundOf(now, beats);
    }

    /** Two guests change places. */
    public int swap(int one, int other) {
        Hall now = book.now;
        if (!now.areTwoIn(one, other)) {
            return NONE;
        }
        book.remember();
        int kept = now.place[one];
        now.place[one] = now.place[other];
        now.place[other] = kept;
        return now.place[one];
    }

    /** A guest has another step. */
    public int pace(int guest, int step) {
        Hall now = book.now;
        if (!now.hasGuest(guest) || step < 0 || step >= PACES || step == now.step[guest]) {
            return NONE;
        }
        book.remember();
        int was = now.step[guest];
        now.step[guest] = step;
        return was;
    }

    /** A chair is there again. */
    public int bring(int chair) {
        Hall now = book.now;
        if (!now.hasChair(chair) || now.isThere(chair)) {
            return NONE;
        }
        book.remember();
        now.there |= 1 << chair;
        return Integer.bitCount(now.there);
    }

    /** The last act is undone. */
    public int undo() {
        return book.takeBack() ? book.acts : -2;
    }

    /** How it is some rounds ahead. */
    public int ahead(int guest, int n, int what) {
        Hall now = book.now;
        if (!now.isTold() || n < 0 || n > FURTHEST || what < 0 || what > 2) {
            return NONE;
        }
        if (what == 0 && !now.hasGuest(guest)) {
            return NONE;
        }
        Hall then = forecast.after(now, ruleInForce(), n);
        switch (what) {
            case 0: return then.place[guest];
            case 1: return then.in;
            default: return then.there;
        }
    }

    /** Who wins, and when. */
    public int winner(int what) {
        if (!book.now.isTold() || what < 0 || what > 1) {
            return NONE;
        }
        Hall then = forecast.whenOver(book.now, ruleInForce());
        return what == 0 ? then.alone() : then.round;
    }

    /** The round in which a guest is out. */
    public int gone(int guest) {
        return book.now.isIn(guest) ? forecast.roundOut(book.now, ruleInForce(), guest) : NONE;
    }

    /** Numbers of beats by which a guest sits. */
    public int safe(int guest, int what) {
        Hall now = book.now;
        if (now.isOver() || !now.isIn(guest) || what < 0 || what > 1) {
            return NONE;
        }
        return what == 0 ? forecast.countSafe(now, guest) : forecast.leastSafe(now, guest);
    }

    /** Rows of beats by which a guest stays in. */
    public int row(int guest, int n, int what) {
        Hall now = book.now;
        if (!now.isIn(guest) || n < 1 || n > LONGEST_ROW || what < 0 || what > LONGEST_ROW) {
            return -3;
        }
        if (what > n) {
            return NONE;
        }
        int many = forecast.countRows(now, guest, n);
        if (what == 0) {
            return many;
        }
        return many == 0 ? -2 : forecast.firstRow[what - 1];
    }

    /** How many can sit within a time. */
    public int within(int t) {
        return book.now.isTold() && t >= 0 && t <= MOST_TIME ? seats.mostWithin(book.now, t) : NONE;
    }

    /** Seats by least time together. */
    public int kind(int what) {
        Hall now = book.now;
        if (!now.isTold() || what < NONE || what >= now.guests) {
            return -2;
        }
        int much = seats.leastTime(now, true);
        return what == NONE ? much : seats.chairOf(now, what);
    }

    /** The least longest time. */
    public int longest() {
        return book.now.isTold() ? seats.leastTime(book.now, false) : NONE;
    }

    /** When two meet. */
    public int meet(int one, int other) {
        return book.now.areTwoIn(one, other) ? book.now.beatsTillMeeting(one, other) : NONE;
    }

    /** When all are where they are now. */
    public int tour() {
        return book.now.isTold() ? book.now.beatsTillBack() : NONE;
    }

    /** The chair that had best go. */
    public int away(int guest, int n, int what) {
        if (!book.now.isIn(guest) || !isAsked(n) || what < 0 || what > 1) {
            return -2;
        }
        forecast.chooseChair(book.now, ruleInForce(), guest, n);
        return what == 0 ? forecast.best : forecast.bestSits;
    }

    /** The place where one had best begin. */
    public int begin(int guest, int n, int what) {
        if (!book.now.isIn(guest) || !isAsked(n) || what < 0 || what > 1) {
            return NONE;
        }
        forecast.choosePlace(book.now, ruleInForce(), guest, n);
        return what == 0 ? forecast.best : forecast.bestSits;
    }

    /** Steps that fit the notes. */
    public int steps(int guest) {
        return book.told.hasGuest(guest) ? evidence.fittingSteps(book, ruleInForce(), guest) : NONE;
    }

    /** Quicks that fit the notes. */
    public int quicks(int guest) {
        return book.told.hasGuest(guest) ? evidence.fittingQuicks(book, ruleInForce(), guest) : NONE;
    }

    /** Steps of two of which neither had better take another. */
    public int rests(int one, int other, int n, int what) {
        if (!book.now.areTwoIn(one, other) || !isAsked(n) || what < 0 || what > 2) {
            return NONE;
        }
        forecast.playPaces(book.now, ruleInForce(), one, other, n);
        if (what == 0) {
            return forecast.countRests();
        }
        int first = forecast.firstRest();
        if (first == NONE) {
            return -2;
        }
        return what == 1 ? first / PACES : first % PACES;
    }

    /** Pence parted by how often one sat. */
    public int pence(int much, int guest) {
        if (much < 0 || much > MOST_PENCE || !book.now.hasGuest(guest)) {
            return NONE;
        }
        return book.now.shareOf(much, guest);
    }

    /** A note. */
    public int note(int n, int guest, int in) {
        if (n == NONE) {
            book.notes = 0;
            return 0;
        }
        if (n < 0 || n > LAST_NOTED || !book.now.hasGuest(guest) || in < 0 || in > 1) {
            return -2;
        }
        return book.addNote(n, guest, in) ? book.notes : -2;
    }

    /** By which rule it was. */
    public int ruled(int what) {
        if (!book.told.isTold() || what < 0 || what > 1) {
            return -3;
        }
        int many = 0;
        int first = -2;
        for (int r = ruleCount - 1; r >= NONE; r--) {
            if (evidence.ruleFits(book, ruleOf(r))) {
                many++;
                first = r;
            }
        }
        return what == 0 ? many : first;
    }

    /** Where to look next. */
    public int look(int n, int what) {
        Hall told = book.told;
        if (!told.isTold() || n < 0 || n > LAST_NOTED || what < 0 || what > 1) {
            return NONE;
        }
        evidence.startLook();
        for (int r = NONE; r < ruleCount; r++) {
            if (evidence.ruleFits(book, ruleOf(r))) {
                evidence.countLook(n);
            }
        }
        int who = evidence.bestLook(told.guests);
        if (who == NONE) {
            return -2;
        }
        return what == 0 ? who : evidence.mostAlike(who);
    }

    /** x becomes a number. */
    public int seed(int x) {
        if (x < 0) {
            return NONE;
        }
        int was = book.seed;
        book.seed = x;
        return was;
    }

    /** Parties of drawn beats. */
    public int tunes(int m, int p, int guest) {
        Hall now = book.now;
        if (!now.isTold() || m < 1 || m > LONGEST_ASKED || p < 1 || p > MOST_BEATS) {
            return -2;
        }
        if (guest != NONE && !now.hasGuest(guest)) {
            return -2;
        }
        return forecast.countTunes(now, book.seed, m, p, guest == NONE ? -2 : guest);
    }

    /** How many, how much. */
    public int count(int what) {
        Hall now = book.now;
        switch (what) {
            case 0: return now.places;
            case 1: return now.chairs;
            case 2: return now.guests;
            case 3: return ruleCount;
            case 4: return book.force;
            case 5: return now.round;
            case 6: return now.in;
            case 7: return now.there;
            case 8: return now.isTold() && now.isOver() ? 1 : 0;
            case 9: return now.last;
            case 10: return now.beats;
            case 11: return book.notes;
            case 12: return book.acts;
            case 13: return book.seed;
            case 14: return tape.size;
            default: return NONE;
        }
    }

    /** An image is made. */
    public int image(int k) {
        if (k < 0 || k >= MOST_IMAGES) {
            return NONE;
        }
        if (images[k] == null) {
            images[k] = new Book();
        }
        images[k].copyFrom(book);
        return book.now.round;
    }

    /** All is as in an image. */
    public int back(int k) {
        if (k < 0 || k >= MOST_IMAGES || images[k] == null) {
            return NONE;
        }
        book.copyFrom(images[k]);
        return book.now.round;
    }

    private static boolean isAsked(int n) {
        return n >= 1 && n <= LONGEST_ASKED;
    }

    private Rule ruleInForce() {
        return ruleOf(book.force);
    }

    private Rule ruleOf(int number) {
        return number >= 0 && number < ruleCount ? rules[number] : null;
    }

    /** The bytes that were fed, with a head that reads sign by sign along them and keeps the fault. */
    private static final class Tape {
        private static final int BLANK = 32;
        private static final int MOST_DIGITS = 5;
        private static final int WORDS = 18;
        // signs that are no part of a rule's code; those that are have the numbers that Rule gives them
        private static final int END = 1;
        private static final int BAD = 2;
        private static final int NUMBER = 3;
        private static final int LONG_NUMBER = 4;
        private static final int PARTY = 5;
        private static final int CHAIR = 6;
        private static final int GUEST = 7;
        private static final int NEXT = 8;
        private static final int CLOSE = 9;

        private final int[] bytes = new int[MOST_BYTES];
        private int size = 0;
        private int at = 0;
        private int start = 0;
        private int sign = END;
        private int value = 0;
        private int fault = 0;

        private void append(int four) {
            for (int shift = 24; shift >= 0 && size < MOST_BYTES; shift -= 8) {
                bytes[size] = four >> shift & 255;
                size++;
            }
        }

        private void rewind() {
            at = 0;
            start = 0;
            fault = 0;
        }

        /** Keeps a fault at the sign that was read last. */
        private boolean fail(int sort) {
            fault = 1 + 8 * start + sort;
            return false;
        }

        private void readSign() {
            while (at < size && bytes[at] == BLANK) {
                at++;
            }
            start = at;
            if (at >= size) {
                sign = END;
            } else if (isLetter(bytes[at])) {
                readWord();
            } else if (isDigit(bytes[at])) {
                readNumber();
            } else {
                readMark();
            }
        }

        private static boolean isLetter(int one) {
            return one >= 'a' && one <= 'z';
        }

        private static boolean isDigit(int one) {
            return one >= '0' && one <= '9';
        }

        private void readWord() {
            while (at < size && isLetter(bytes[at])) {
                at++;
            }
            sign = BAD;
            for (int k = 0; k < WORDS && sign == BAD; k++) {
                if (spells(wordOf(k))) {
                    sign = signOf(k);
                }
            }
        }

        private boolean spells(String word) {
            if (at - start != word.length()) {
                return false;
            }
            for (int k = 0; k < word.length() && start + k < size; k++) {
                if (bytes[start + k] != word.charAt(k)) {
                    return false;
                }
            }
            return true;
        }

        /** The words for values come first, as Rule counts them. */
        private static String wordOf(int number) {
            switch (number) {
                case 0: return "places";
                case 1: return "round";
                case 2: return "guests";
                case 3: return "chairs";
                case 4: return "last";
                case 5: return "beats";
                case 6: return "fast";
                case 7: return "slow";
                case 8: return "near";
                case 9: return "tired";
                case 10: return "play";
                case 11: return "if";
                case 12: return "or";
                case 13: return "and";
                case 14: return "not";
                case 15: return "party";
                case 16: return "chair";
                default: return "guest";
            }
        }

        private static int signOf(int word) {
            switch (word) {
                case 10: return Rule.PLAY;
                case 11: return Rule.IF;
                case 12: return Rule.OR;
                case 13: return Rule.AND;
                case 14: return Rule.NOT;
                case 15: return PARTY;
                case 16: return CHAIR;
                case 17: return GUEST;
                default: return -1 - word;
            }
        }

        private void readNumber() {
            value = 0;
            while (at < size && isDigit(bytes[at])) {
                // more digits are a fault whatever they are, so they need not be added up
                if (at - start < MOST_DIGITS) {
                    value = value * 10 + bytes[at] - '0';
                }
                at++;
            }
            sign = at - start > MOST_DIGITS ? LONG_NUMBER : NUMBER;
        }

        private void readMark() {
            int mark = bytes[start];
            at++;
            sign = markOf(mark);
            if ((mark == '<' || mark == '>') && at < size && bytes[at] == '=') {
                at++;
                sign = mark == '<' ? Rule.AT_MOST : Rule.AT_LEAST;
            }
        }

        private static int markOf(int mark) {
            switch (mark) {
                case ';': return NEXT;
                case '[': return Rule.OPEN;
                case ']': return CLOSE;
                case '+': return Rule.ADD;
                case '-': return Rule.LESSEN;
                case '*': return Rule.TIMES;
                case '/': return Rule.DIVIDE;
                case '%': return Rule.REST;
                case '<': return Rule.BELOW;
                case '=': return Rule.ALIKE;
                case '>': return Rule.ABOVE;
                default: return BAD;
            }
        }
    }

    /** Reads the text of a party from the tape. */
    private static final class PartyReader {
        private static final int MOST_CLAUSES = 40;
        private static final int FEWEST_PLACES = 4;
        private static final int MOST_PLACES = 24;
        private static final int WORD_DUE = 0;
        private static final int NUMBER_DUE = 1;
        private static final int CLAUSE_READ = 2;
        private static final int ENDED = 3;

        private final Tape tape;
        private final Hall draft = new Hall();
        private final int[] numbers = new int[3];
        private int numbersRead = 0;
        private int clause = 0;
        private int clauses = 0;
        private int state = WORD_DUE;

        private PartyReader(Tape tape) {
            this.tape = tape;
        }

        /** The fault, 0 if there is none; the draft is the party then. */
        private int read() {
            tape.rewind();
            draft.clear();
            clauses = 0;
            state = WORD_DUE;
            for (int k = 0; k <= MOST_BYTES && state != ENDED; k++) {
                tape.readSign();
                if (!takeSign()) {
                    return tape.fault;
                }
            }
            return 0;
        }

        private boolean takeSign() {
            switch (state) {
                case WORD_DUE: return takeWord();
                case NUMBER_DUE: return takeNumber();
                default: return takeBehindClause();
            }
        }

        private boolean takeWord() {
            clause = tape.sign;
            if (clause != Tape.PARTY && clause != Tape.CHAIR && clause != Tape.GUEST) {
                return tape.fail(0);
            }
            boolean misplaced = (clause == Tape.PARTY) != (clauses == 0) || clauses >= MOST_CLAUSES;
            boolean oneMore = clause == Tape.CHAIR && draft.chairs >= MOST_CHAIRS
                    || clause == Tape.GUEST && draft.guests >= MOST_GUESTS;
            if (misplaced || oneMore) {
                return tape.fail(4);
            }
            clauses++;
            numbersRead = 0;
            state = NUMBER_DUE;
            return true;
        }

        private boolean takeNumber() {
            int number = tape.value;
            if (tape.sign != Tape.NUMBER) {
                return tape.fail(tape.sign == Tape.LONG_NUMBER ? 1 : 0);
            }
            if (number < lowest() || number > highest() || clause == Tape.CHAIR && draft.hasChairAt(number)) {
                return tape.fail(1);
            }
            if (numbersRead >= 0 && numbersRead < numbers.length) {
                numbers[numbersRead] = number;
                numbersRead++;
            }
            if (clause != Tape.GUEST || numbersRead >= numbers.length) {
                endClause();
            }
            return true;
        }

        private int lowest() {
            if (clause == Tape.PARTY) {
                return FEWEST_PLACES;
            }
            return numbersRead == 2 ? 1 : 0;
        }

        private int highest() {
            if (clause == Tape.PARTY) {
                return MOST_PLACES;
            }
            switch (numbersRead) {
                case 0: return draft.places - 1;
                case 1: return PACES - 1;
                default: return QUICKEST;
            }
        }

        private void endClause() {
            switch (clause) {
                case Tape.PARTY:
                    draft.places = numbers[0];
                    break;
                case Tape.CHAIR:
                    draft.addChair(numbers[0]);
                    break;
                default:
                    draft.addGuest(numbers[0], numbers[1], numbers[2]);
            }
            state = CLAUSE_READ;
        }

        private boolean takeBehindClause() {
            if (tape.sign != Tape.NEXT && tape.sign != Tape.END) {
                return tape.fail(0);
            }
            state = tape.sign == Tape.NEXT ? WORD_DUE : ENDED;
            return true;
        }
    }

    /** Reads the text of a rule from the tape and makes its code, in which signs stand behind what they join. */
    private static final class RuleReader {
        private static final int MOST_CLAUSES = 12;
        private static final int DEEPEST = 10;
        private static final int MOST_PARTS = 60;
        // of each bracket, not, and the text itself: an or and an and; beside these a fact's three
        private static final int MOST_WAITING = 64;
        private static final int PLAY_DUE = 0;
        private static final int FACT_DUE = 1;
        private static final int VALUE_DUE = 2;
        private static final int VALUE_READ = 3;
        private static final int FACT_READ = 4;
        private static final int ENDED = 5;

        private final Tape tape;
        // a sign of the code stands for at least one byte of the text, so it never grows longer
        private final int[] code = new int[MOST_BYTES];
        private int length = 0;
        private final int[] waiting = new int[MOST_WAITING];
        private int top = 0;
        private int state = PLAY_DUE;
        private int clauses = 0;
        private int parts = 0;
        private int depth = 0;
        private boolean testing = false;
        private boolean compared = false;

        private RuleReader(Tape tape) {
            this.tape = tape;
        }

        /** The fault, 0 if there is none. */
        private int read() {
            tape.rewind();
            length = 0;
            top = 0;
            state = PLAY_DUE;
            clauses = 0;
            parts = 0;
            depth = 0;
            for (int k = 0; k <= MOST_BYTES && state != ENDED; k++) {
                tape.readSign();
                if (!takeSign()) {
                    return tape.fault;
                }
            }
            return 0;
        }

        private Rule made() {
            return new Rule(Arrays.copyOf(code, length));
        }

        private boolean takeSign() {
            switch (state) {
                case PLAY_DUE: return takePlay();
                case FACT_DUE: return takeFact();
                case VALUE_DUE: return takeValue();
                case VALUE_READ: return takeBehindValue();
                default: return takeBehindFact();
            }
        }

        private boolean takePlay() {
            if (tape.sign != Rule.PLAY) {
                return tape.fail(0);
            }
            if (clauses >= MOST_CLAUSES) {
                return tape.fail(4);
            }
            clauses++;
            testing = false;
            state = VALUE_DUE;
            return true;
        }

        private boolean takeFact() {
            compared = false;
            if (tape.sign != Rule.OPEN && tape.sign != Rule.NOT) {
                return takeValue();
            }
            if (depth >= DEEPEST) {
                return tape.fail(2);
            }
            depth++;
            push(FACT_DUE);
            return true;
        }

        private boolean takeValue() {
            boolean isNumber = tape.sign == Tape.NUMBER;
            boolean isWord = tape.sign < 0 && tape.sign >= -Rule.WORDS;
            if (!isNumber && !isWord) {
                return tape.fail(tape.sign == Tape.LONG_NUMBER ? 1 : 0);
            }
            if (parts >= MOST_PARTS) {
                return tape.fail(3);
            }
            parts++;
            emit(isNumber ? tape.value : tape.sign);
            state = VALUE_READ;
            return true;
        }

        private boolean takeBehindValue() {
            int rank = rankOf(tape.sign);
            if (rank >= Rule.RANK_ADD) {
                release(rank);
                push(VALUE_DUE);
                return true;
            }
            if (testing) {
                return compared ? takeBehindFact() : takeComparing();
            }
            if (tape.sign != Rule.IF) {
                return takeEnd(Rule.PLAY);
            }
            release(Rule.RANK_OR);
            testing = true;
            state = FACT_DUE;
            return true;
        }

        private boolean takeComparing() {
            if (rankOf(tape.sign) != Rule.RANK_COMPARE) {
                return tape.fail(0);
            }
            if (parts >= MOST_PARTS) {
                return tape.fail(3);
            }
            parts++;
            compared = true;
            release(Rule.RANK_COMPARE);
            push(VALUE_DUE);
            return true;
        }

        private boolean takeBehindFact() {
            if (tape.sign == Rule.AND || tape.sign == Rule.OR) {
                release(rankOf(tape.sign));
                push(FACT_DUE);
                return true;
            }
            if (tape.sign != Tape.CLOSE) {
                return takeEnd(Rule.IF);
            }
            release(Rule.RANK_OR);
            if (top <= 0) {
                return tape.fail(0);
            }
            top--;
            depth--;
            state = FACT_READ;
            return true;
        }

        private boolean takeEnd(int mark) {
            if (tape.sign != Tape.NEXT && tape.sign != Tape.END) {
                return tape.fail(0);
            }
            release(Rule.RANK_OR);
            if (top > 0) {
                // a bracket is open still
                return tape.fail(0);
            }
            emit(mark);
            state = tape.sign == Tape.NEXT ? PLAY_DUE : ENDED;
            return true;
        }

        /** The sign that was read waits till what it joins is read. */
        private void push(int due) {
            if (top >= 0 && top < MOST_WAITING) {
                waiting[top] = tape.sign;
                top++;
            }
            state = due;
        }

        /** Signs that wait go into the code, down to the first that binds less than this rank. */
        private void release(int rank) {
            while (top > 0 && rankOf(waiting[top - 1]) >= rank) {
                top--;
                if (waiting[top] == Rule.NOT) {
                    depth--;
                }
                emit(waiting[top]);
            }
        }

        private void emit(int sign) {
            if (length < MOST_BYTES) {
                code[length] = sign;
                length++;
            }
        }

        private static int rankOf(int sign) {
            switch (sign) {
                case Rule.TIMES: case Rule.DIVIDE: case Rule.REST: return Rule.RANK_TIMES;
                case Rule.ADD: case Rule.LESSEN: return Rule.RANK_ADD;
                case Rule.BELOW: case Rule.AT_MOST: case Rule.ALIKE: case Rule.AT_LEAST: case Rule.ABOVE:
                    return Rule.RANK_COMPARE;
                case Rule.NOT: return Rule.RANK_NOT;
                case Rule.AND: return Rule.RANK_AND;
                case Rule.OR: return Rule.RANK_OR;
                default: return 0;
            }
        }
    }

    /** A rule as code for a stack: numbers are themselves, words are -1 - which, all else stands below. */
    private static final class Rule {
        private static final int WORDS = 10;
        private static final int ADD = -11;
        private static final int LESSEN = -12;
        private static final int TIMES = -13;
        private static final int DIVIDE = -14;
        private static final int REST = -15;
        private static final int BELOW = -16;
        private static final int AT_MOST = -17;
        private static final int ALIKE = -18;
        private static final int AT_LEAST = -19;
        private static final int ABOVE = -20;
        private static final int AND = -21;
        private static final int OR = -22;
        private static final int NOT = -23;
        private static final int PLAY = -24;
        private static final int IF = -25;
        private static final int OPEN = -26;
        // how strongly signs bind
        private static final int RANK_OR = 1;
        private static final int RANK_AND = 2;
        private static final int RANK_NOT = 3;
        private static final int RANK_COMPARE = 4;
        private static final int RANK_ADD = 5;
        private static final int RANK_TIMES = 6;
        // two facts wait at each depth at most, and four values beside these
        private static final int STACK = 64;

        private final int[] code;
        private final long[] stack = new long[STACK];
        private int top = 0;

        private Rule(int[] code) {
            this.code = code;
        }

        /** The sum of the first clause without a test or whose test holds; 0 without one. */
        private long sumFor(Hall hall) {
            top = 0;
            for (int k = 0; k < code.length; k++) {
                int sign = code[k];
                if (sign == PLAY) {
                    return pop();
                }
                if (sign == IF) {
                    long holds = pop();
                    long sum = pop();
                    if (holds != 0) {
                        return sum;
                    }
                } else if (sign >= 0) {
                    push(sign);
                } else if (sign >= -WORDS) {
                    push(hall.valueOf(-1 - sign));
                } else if (sign == NOT) {
                    push(1 - pop());
                } else {
                    long right = pop();
                    push(join(sign, pop(), right));
                }
            }
            return 0;
        }

        private void push(long value) {
            if (top >= 0 && top < STACK) {
                stack[top] = value;
                top++;
            }
        }

        private long pop() {
            if (top <= 0 || top > STACK) {
                return 0;
            }
            top--;
            return stack[top];
        }

        private static long join(int sign, long left, long right) {
            switch (sign) {
                case ADD: return left + right;
                case LESSEN: return left - right;
                case TIMES: return left * right;
                case DIVIDE: return right == 0 ? 0 : left / right;
                case REST: return right == 0 ? 0 : left % right;
                case BELOW: return left < right ? 1 : 0;
                case AT_MOST: return left <= right ? 1 : 0;
                case ALIKE: return left == right ? 1 : 0;
                case AT_LEAST: return left >= right ? 1 : 0;
                case ABOVE: return left > right ? 1 : 0;
                case AND: return left & right;
                default: return left | right;
            }
        }
    }

    /** A party as it stands at one time. */
    private static final class Hall {
        private int places = 0;
        private int chairs = 0;
        private int guests = 0;
        private int there = 0;
        private int in = 0;
        private int round = 0;
        private int last = NONE;
        private int beats = 0;
        private final int[] chairPlace = new int[MOST_CHAIRS];
        private final int[] place = new int[MOST_GUESTS];
        private final int[] step = new int[MOST_GUESTS];
        private final int[] quick = new int[MOST_GUESTS];
        private final int[] tired = new int[MOST_GUESTS];
        private final int[] sat = new int[MOST_GUESTS];

        private void clear() {
            places = 0;
            chairs = 0;
            guests = 0;
            there = 0;
            in = 0;
            round = 0;
            last = NONE;
            beats = 0;
        }

        private void copyFrom(Hall other) {
            places = other.places;
            chairs = other.chairs;
            guests = other.guests;
            there = other.there;
            in = other.in;
            round = other.round;
            last = other.last;
            beats = other.beats;
            System.arraycopy(other.chairPlace, 0, chairPlace, 0, MOST_CHAIRS);
            System.arraycopy(other.place, 0, place, 0, MOST_GUESTS);
            System.arraycopy(other.step, 0, step, 0, MOST_GUESTS);
            System.arraycopy(other.quick, 0, quick, 0, MOST_GUESTS);
            System.arraycopy(other.tired, 0, tired, 0, MOST_GUESTS);
            System.arraycopy(other.sat, 0, sat, 0, MOST_GUESTS);
        }

        private void addChair(int where) {
            if (chairs < MOST_CHAIRS) {
                chairPlace[chairs] = where;
                there |= 1 << chairs;
                chairs++;
            }
        }

        private void addGuest(int where, int pace, int swiftness) {
            if (guests < MOST_GUESTS) {
                place[guests] = where;
                step[guests] = pace;
                quick[guests] = swiftness;
                tired[guests] = 0;
                sat[guests] = 0;
                in |= 1 << guests;
                guests++;
            }
        }

        private boolean hasChairAt(int where) {
            for (int c = 0; c < chairs; c++) {
                if (chairPlace[c] == where) {
                    return true;
                }
            }
            return false;
        }

        private boolean isTold() {
            return places > 0;
        }

        private boolean isOver() {
            return Integer.bitCount(in) <= 1 || there == 0;
        }

        private boolean hasChair(int number) {
            return number >= 0 && number < chairs;
        }

        private boolean hasGuest(int number) {
            return number >= 0 && number < guests;
        }

        private boolean isThere(int number) {
            return hasChair(number) && (there >> number & 1) == 1;
        }

        private boolean isIn(int number) {
            return hasGuest(number) && (in >> number & 1) == 1;
        }

        private boolean areTwoIn(int one, int other) {
            return one != other && isIn(one) && isIn(other);
        }

        /** Who is in alone; -2 without one. */
        private int alone() {
            return Integer.bitCount(in) == 1 ? Integer.numberOfTrailingZeros(in) : -2;
        }

        /** The time of a guest and a chair that were told. */
        private int timeFor(int guest, int chair) {
            int way = Math.abs(place[guest] - chairPlace[chair]);
            int far = Math.min(way, places - way);
            int swiftness = quick[guest];
            return swiftness < 1 ? 0 : far * (10 + tired[guest]) / swiftness;
        }

        /** What the word of a rule says. */
        private long valueOf(int word) {
            switch (word) {
                case 0: return places;
                case 1: return round;
                case 2: return Integer.bitCount(in);
                case 3: return Integer.bitCount(there);
                case 4: return last;
                case 5: return beats;
                case 6: return greatestStep();
                case 7: return leastStep();
                case 8: return countNear();
                default: return tiredTogether();
            }
        }

        private int greatestStep() {
            int greatest = 0;
            for (int g = 0; g < guests; g++) {
                if ((in >> g & 1) == 1 && step[g] > greatest) {
                    greatest = step[g];
                }
            }
            return greatest;
        }

        private int leastStep() {
            int least = PACES;
            for (int g = 0; g < guests; g++) {
                if ((in >> g & 1) == 1 && step[g] < least) {
                    least = step[g];
                }
            }
            return least;
        }

        private int countNear() {
            int taken = 0;
            for (int c = 0; c < chairs; c++) {
                taken |= (there >> c & 1) << chairPlace[c];
            }
            int near = 0;
            for (int g = 0; g < guests; g++) {
                near += in >> g & taken >> place[g] & 1;
            }
            return near;
        }

        private int tiredTogether() {
            int sum = 0;
            for (int g = 0; g < guests; g++) {
                sum += (in >> g & 1) * tired[g];
            }
            return sum;
        }

        private int beatsTillMeeting(int one, int other) {
            for (int b = 0; b <= MOST_BEATS && places > 0; b++) {
                if ((place[one] + step[one] * b) % places == (place[other] + step[other] * b) % places) {
                    return b;
                }
            }
            return -2;
        }

        private int beatsTillBack() {
            for (int b = 1; b < places; b++) {
                if (isBackAfter(b)) {
                    return b;
                }
            }
            // a full ring of beats brings everybody back, whatever their step
            return places;
        }

        private boolean isBackAfter(int beats) {
            for (int g = 0; g < guests; g++) {
                if ((in >> g & 1) == 1 && places > 0 && step[g] * beats % places != 0) {
                    return false;
                }
            }
            return true;
        }

        private int shareOf(int much, int guest) {
            int all = 0;
            for (int g = 0; g < guests; g++) {
                all += sat[g];
            }
            if (all < 1) {
                return 0;
            }
            int left = much;
            int ahead = 0;
            int lost = much * sat[guest] % all;
            for (int g = 0; g < guests; g++) {
                int loses = much * sat[g] % all;
                left -= much * sat[g] / all;
                if (loses > lost || loses == lost && g < guest) {
                    ahead++;
                }
            }
            return much * sat[guest] / all + (ahead < left ? 1 : 0);
        }
    }

    /** Plays rounds. */
    private static final class Game {
        private static final int PAIRS = MOST_GUESTS * MOST_CHAIRS;

        private final int[] times = new int[PAIRS];
        private final int[] seat = new int[MOST_GUESTS];
        private int lastTaken = NONE;

        /** A round by a rule, or without one: who sits, as bits. */
        private int roundBy(Hall hall, Rule rule) {
            if (hall.isOver()) {
                hall.beats = 0;
                hall.round++;
                return 0;
            }
            long beats = rule == null ? BEATS_WITHOUT_RULE : rule.sumFor(hall);
            return roundOf(hall, (int) Math.max(1, Math.min(MOST_BEATS, beats)));
        }

        /** A round of so many beats, in a hall where it is not over: who sits, as bits. */
        private int roundOf(Hall hall, int beats) {
            walk(hall, beats);
            measure(hall);
            int sitting = seatAll(hall);
            settle(hall, sitting);
            hall.beats = beats;
            hall.round++;
            return sitting;
        }

        private void walk(Hall hall, int beats) {
            for (int g = 0; g < hall.guests && hall.places > 0; g++) {
                if ((hall.in >> g & 1) == 1) {
                    hall.place[g] = (hall.place[g] + hall.step[g] * beats) % hall.places;
                }
            }
        }

        private int seatAll(Hall hall) {
            int standing = hall.in;
            int free = hall.there;
            lastTaken = NONE;
            for (int k = 0; k < MOST_CHAIRS; k++) {
                int pair = nearestPair(standing, free);
                if (pair == NONE) {
                    break;
                }
                int guest = pair / MOST_CHAIRS;
                lastTaken = pair % MOST_CHAIRS;
                seat[guest] = lastTaken;
                standing &= ~(1 << guest);
                free &= ~(1 << lastTaken);
            }
            return hall.in & ~standing;
        }

        private void measure(Hall hall) {
            for (int g = 0; g < hall.guests; g++) {
                if ((hall.in >> g & 1) == 1) {
                    for (int c = 0; c < hall.chairs; c++) {
                        times[g * MOST_CHAIRS + c] = hall.timeFor(g, c);
                    }
                }
            }
        }

        /** Pairs go up by guest, then by chair, so the first of the least time is the one that is due. */
        private int nearestPair(int standing, int free) {
            int found = NONE;
            for (int g = 0; g < MOST_GUESTS; g++) {
                if ((standing >> g & 1) == 0) {
                    continue;
                }
                for (int c = 0; c < MOST_CHAIRS; c++) {
                    int pair = g * MOST_CHAIRS + c;
                    if ((free >> c & 1) == 1 && (found == NONE || times[pair] < times[found])) {
                        found = pair;
                    }
                }
            }
            return found;
        }

        private void settle(Hall hall, int sitting) {
            for (int g = 0; g < hall.guests; g++) {
                if ((sitting >> g & 1) == 1) {
                    sit(hall, g, seat[g]);
                } else if ((hall.in >> g & 1) == 1) {
                    hall.in &= ~(1 << g);
                    hall.last = g;
                }
            }
            if (lastTaken != NONE) {
                hall.there &= ~(1 << lastTaken);
            }
        }

        private static void sit(Hall hall, int guest, int chair) {
            if (hall.sat[guest] < MOST_SAT) {
                hall.sat[guest]++;
            }
            if (hall.place[guest] == hall.chairPlace[chair]) {
                return;
            }
            hall.place[guest] = hall.chairPlace[chair];
            if (hall.tired[guest] < MOST_TIRED) {
                hall.tired[guest]++;
            }
        }
    }

    /** All that an image holds. */
    private static final class Book {
        private final Hall told = new Hall();
        private final Hall now = new Hall();
        // halls before the last acts, round and round; each is made when it is first needed
        private final Hall[] past = new Hall[MOST_ACTS];
        private int nextPast = 0;
        private int acts = 0;
        private final int[] noteRound = new int[MOST_NOTES];
        private final int[] noteGuest = new int[MOST_NOTES];
        private final int[] noteIn = new int[MOST_NOTES];
        private int notes = 0;
        private int force = NONE;
        private int seed = 0;

        private void startParty(Hall draft) {
            told.copyFrom(draft);
            now.copyFrom(draft);
            acts = 0;
            notes = 0;
        }

        private void remember() {
            keepPast(nextPast, now);
            nextPast = (nextPast + 1) % MOST_ACTS;
            if (acts < MOST_ACTS) {
                acts++;
            }
        }

        private void keepPast(int slot, Hall hall) {
            if (past[slot] == null) {
                past[slot] = new Hall();
            }
            past[slot].copyFrom(hall);
        }

        private boolean takeBack() {
            int slot = (nextPast + MOST_ACTS - 1) % MOST_ACTS;
            if (acts < 1 || past[slot] == null) {
                return false;
            }
            now.copyFrom(past[slot]);
            nextPast = slot;
            acts--;
            return true;
        }

        private boolean addNote(int round, int guest, int in) {
            if (notes >= MOST_NOTES) {
                return false;
            }
            noteRound[notes] = round;
            noteGuest[notes] = guest;
            noteIn[notes] = in;
            notes++;
            return true;
        }

        private void copyFrom(Book other) {
            told.copyFrom(other.told);
            now.copyFrom(other.now);
            nextPast = other.nextPast;
            acts = other.acts;
            for (int k = 1; k <= acts; k++) {
                int slot = (nextPast + MOST_ACTS - k) % MOST_ACTS;
                if (other.past[slot] != null) {
                    keepPast(slot, other.past[slot]);
                }
            }
            System.arraycopy(other.noteRound, 0, noteRound, 0, MOST_NOTES);
            System.arraycopy(other.noteGuest, 0, noteGuest, 0, MOST_NOTES);
            System.arraycopy(other.noteIn, 0, noteIn, 0, MOST_NOTES);
            notes = other.notes;
            force = other.force;
            seed = other.seed;
        }
    }

    /** What is asked of rounds to come; it plays them in halls of its own. */
    private static final class Forecast {
        private final Game game;
        private final Hall trial = new Hall();
        private final Hall[] levels = new Hall[LONGEST_ROW + 1];
        private final int[] path = new int[LONGEST_ROW];
        private final int[] firstRow = new int[LONGEST_ROW];
        private boolean hasRow = false;
        private final int[] oneSits = new int[PACES * PACES];
        private final int[] otherSits = new int[PACES * PACES];
        private int best = NONE;
        private int bestSits = 0;

        private Forecast(Game game) {
            this.game = game;
            for (int k = 0; k < levels.length; k++) {
                levels[k] = new Hall();
            }
        }

        private Hall after(Hall now, Rule rule, int rounds) {
            trial.copyFrom(now);
            for (int k = 0; k < rounds; k++) {
                game.roundBy(trial, rule);
            }
            return trial;
        }

        /** Each round takes a chair away, so it is over when as many were played as there are chairs. */
        private Hall whenOver(Hall now, Rule rule) {
            trial.copyFrom(now);
            for (int k = 0; k < MOST_CHAIRS && !trial.isOver(); k++) {
                game.roundBy(trial, rule);
            }
            return trial;
        }

        private int roundOut(Hall now, Rule rule, int guest) {
            trial.copyFrom(now);
            for (int k = 0; k < MOST_CHAIRS && !trial.isOver(); k++) {
                game.roundBy(trial, rule);
                if (!trial.isIn(guest)) {
                    return trial.round - 1;
                }
            }
            return -2;
        }

        private boolean sitsBy(Hall now, int guest, int beats) {
            trial.copyFrom(now);
            return (game.roundOf(trial, beats) >> guest & 1) == 1;
        }

        private int countSafe(Hall now, int guest) {
            int many = 0;
            for (int b = 1; b <= MOST_BEATS; b++) {
                if (sitsBy(now, guest, b)) {
                    many++;
                }
            }
            return many;
        }

        private int leastSafe(Hall now, int guest) {
            for (int b = 1; b <= MOST_BEATS; b++) {
                if (sitsBy(now, guest, b)) {
                    return b;
                }
            }
            return -2;
        }

        private int countRows(Hall now, int guest, int rounds) {
            hasRow = false;
            levels[0].copyFrom(now);
            return rowsFrom(0, rounds, guest);
        }

        private int rowsFrom(int depth, int rounds, int guest) {
            if (depth < 0 || depth > LONGEST_ROW || !levels[depth].isIn(guest)) {
                return 0;
            }
            if (depth >= rounds || depth == LONGEST_ROW || levels[depth].isOver()) {
                return rowsOfRest(depth, rounds);
            }
            int many = 0;
            for (int b = 1; b <= ROW_BEATS; b++) {
                path[depth] = b;
                levels[depth + 1].copyFrom(levels[depth]);
                game.roundOf(levels[depth + 1], b);
                many += rowsFrom(depth + 1, rounds, guest);
            }
            return many;
        }

        /** Nothing more happens in the rounds from this depth on, so any beats will do in them. */
        private int rowsOfRest(int depth, int rounds) {
            int many = 1;
            for (int k = depth; k < rounds && k < LONGEST_ROW; k++) {
                path[k] = 1;
                many *= ROW_BEATS;
            }
            if (!hasRow) {
                System.arraycopy(path, 0, firstRow, 0, LONGEST_ROW);
                hasRow = true;
            }
            return many;
        }

        /** How often a guest sits, from the trial hall on. */
        private int sitsFromTrial(Rule rule, int guest, int rounds) {
            int many = 0;
            for (int k = 0; k < rounds && !trial.isOver(); k++) {
                many += game.roundBy(trial, rule) >> guest & 1;
            }
            return many;
        }

        private void offer(int choice, int sits) {
            if (sits > bestSits) {
                best = choice;
                bestSits = sits;
            }
        }

        private void chooseChair(Hall now, Rule rule, int guest, int rounds) {
            trial.copyFrom(now);
            best = NONE;
            bestSits = sitsFromTrial(rule, guest, rounds);
            for (int c = 0; c < now.chairs; c++) {
                if (now.isThere(c)) {
                    trial.copyFrom(now);
                    trial.there &= ~(1 << c);
                    offer(c, sitsFromTrial(rule, guest, rounds));
                }
            }
        }

        private void choosePlace(Hall now, Rule rule, int guest, int rounds) {
            trial.copyFrom(now);
            best = now.place[guest];
            bestSits = sitsFromTrial(rule, guest, rounds);
            for (int p = 0; p < now.places; p++) {
                trial.copyFrom(now);
                trial.place[guest] = p;
                offer(p, sitsFromTrial(rule, guest, rounds));
            }
        }

        /** Plays all twos of steps of two guests and keeps how often each of them sits. */
        private void playPaces(Hall now, Rule rule, int one, int other, int rounds) {
            for (int two = 0; two < PACES * PACES; two++) {
                trial.copyFrom(now);
                trial.step[one] = two / PACES;
                trial.step[other] = two % PACES;
                oneSits[two] = 0;
                otherSits[two] = 0;
                for (int k = 0; k < rounds && !trial.isOver(); k++) {
                    int sitting = game.roundBy(trial, rule);
                    oneSits[two] += sitting >> one & 1;
                    otherSits[two] += sitting >> other & 1;
                }
            }
        }

        private boolean isRest(int two) {
            int first = two / PACES;
            int second = two % PACES;
            for (int k = 0; k < PACES; k++) {
                if (oneSits[k * PACES + second] > oneSits[two] || otherSits[first * PACES + k] > otherSits[two]) {
                    return false;
                }
            }
            return true;
        }

        private int countRests() {
            int many = 0;
            for (int two = 0; two < PACES * PACES; two++) {
                if (isRest(two)) {
                    many++;
                }
            }
            return many;
        }

        private int firstRest() {
            for (int two = 0; two < PACES * PACES; two++) {
                if (isRest(two)) {
                    return two;
                }
            }
            return NONE;
        }

        /** How many of so many parties of drawn beats end with this one in alone (-2: with nobody). */
        private int countTunes(Hall now, int seed, int parties, int most, int who) {
            int many = 0;
            long x = seed;
            for (int k = 0; k < parties && most > 0; k++) {
                trial.copyFrom(now);
                for (int r = 0; r < MOST_CHAIRS && !trial.isOver(); r++) {
                    x = x * 1103515245L + 12345L & 2147483647L;
                    game.roundOf(trial, 1 + (int) (x / 65536 % most));
                }
                if (trial.alone() == who) {
                    many++;
                }
            }
            return many;
        }
    }

    /** What the notes say of how the party was. */
    private static final class Evidence {
        private final Game game;
        private final Hall trial = new Hall();
        private final int[] inBehind = new int[LAST_NOTED + 1];
        private final int[] inOf = new int[MOST_GUESTS];
        private int looked = 0;

        private Evidence(Game game) {
            this.game = game;
        }

        /** Plays the trial hall from its begin on: whether all notes are so. */
        private boolean trialFits(Book book, Rule rule) {
            for (int r = 0; r <= LAST_NOTED; r++) {
                game.roundBy(trial, rule);
                inBehind[r] = trial.in;
            }
            for (int k = 0; k < book.notes && k < MOST_NOTES; k++) {
                int round = book.noteRound[k];
                if (round < 0 || round > LAST_NOTED || (inBehind[round] >> book.noteGuest[k] & 1) != book.noteIn[k]) {
                    return false;
                }
            }
            return true;
        }

        private boolean ruleFits(Book book, Rule rule) {
            trial.copyFrom(book.told);
            return trialFits(book, rule);
        }

        private int fittingSteps(Book book, Rule rule, int guest) {
            int bits = 0;
            for (int s = 0; s < PACES; s++) {
                trial.copyFrom(book.told);
                trial.step[guest] = s;
                if (trialFits(book, rule)) {
                    bits |= 1 << s;
                }
            }
            return bits;
        }

        private int fittingQuicks(Book book, Rule rule, int guest) {
            int bits = 0;
            for (int q = 1; q <= QUICKEST; q++) {
                trial.copyFrom(book.told);
                trial.quick[guest] = q;
                if (trialFits(book, rule)) {
                    bits |= 1 << q;
                }
            }
            return bits;
        }

        private void startLook() {
            looked = 0;
            Arrays.fill(inOf, 0);
        }

        /** Counts who was in behind a round by the rule that was played last. */
        private void countLook(int round) {
            if (round < 0 || round > LAST_NOTED) {
                return;
            }
            looked++;
            for (int g = 0; g < MOST_GUESTS; g++) {
                inOf[g] += inBehind[round] >> g & 1;
            }
        }

        private int mostAlike(int guest) {
            return Math.max(inOf[guest], looked - inOf[guest]);
        }

        private int bestLook(int guests) {
            int found = NONE;
            for (int g = 0; g < guests && g < MOST_GUESTS && looked > 0; g++) {
                if (found == NONE || mostAlike(g) < mostAlike(found)) {
                    found = g;
                }
            }
            return found;
        }
    }

    /** Seats guests on chairs as all are now, in all ways at once: by guest and by chairs taken ahead of them. */
    private static final class Seats {
        private static final int WAYS = 1 << MOST_CHAIRS;
        private static final int NEVER = 1 << 20;

        private final int[][] least = new int[MOST_GUESTS + 1][WAYS];

        /** The least time, together or of the longest, of all ways to seat as many as there can be. */
        private int leastTime(Hall hall, boolean together) {
            int most = Math.min(Integer.bitCount(hall.in), Integer.bitCount(hall.there));
            for (int taken = 0; taken < WAYS; taken++) {
                least[hall.guests][taken] = Integer.bitCount(taken) == most ? 0 : NEVER;
            }
            for (int g = hall.guests - 1; g >= 0; g--) {
                for (int taken = 0; taken < WAYS; taken++) {
                    least[g][taken] = leastFrom(hall, g, taken, together);
                }
            }
            return least[0][0];
        }

        private int leastFrom(Hall hall, int guest, int taken, boolean together) {
            int found = least[guest + 1][taken];
            for (int c = 0; c < hall.chairs && hall.isIn(guest); c++) {
                if (isFree(hall, c, taken)) {
                    int behind = least[guest + 1][taken | 1 << c];
                    int own = hall.timeFor(guest, c);
                    found = Math.min(found, together ? own + behind : Math.max(own, behind));
                }
            }
            return found;
        }

        private static boolean isFree(Hall hall, int chair, int taken) {
            return (hall.there >> chair & ~taken >> chair & 1) == 1;
        }

        /** The chair of a guest in the first way of least time together, which was sought just now. */
        private int chairOf(Hall hall, int guest) {
            int taken = 0;
            int chair = NONE;
            for (int g = 0; g <= guest && g < hall.guests; g++) {
                chair = firstChair(hall, g, taken);
                if (chair != NONE) {
                    taken |= 1 << chair;
                }
            }
            return chair;
        }

        private int firstChair(Hall hall, int guest, int taken) {
            for (int c = 0; c < hall.chairs && hall.isIn(guest); c++) {
                if (isFree(hall, c, taken)
                        && hall.timeFor(guest, c) + least[guest + 1][taken | 1 << c] == least[guest][taken]) {
                    return c;
                }
            }
            return NONE;
        }

        /** The most guests who can sit, each within a time. */
        private int mostWithin(Hall hall, int limit) {
            int[] reached = least[0];
            Arrays.fill(reached, 0);
            reached[0] = 1;
            int most = 0;
            for (int g = 0; g < hall.guests; g++) {
                // from the most chairs taken down, so that a guest takes one chair alone
                for (int taken = WAYS - 1; taken >= 0; taken--) {
                    if (reached[taken] == 1 && hall.isIn(g)) {
                        most = Math.max(most, reachOn(hall, g, taken, limit));
                    }
                }
            }
            return most;
        }

        /** Marks all that can be taken when this guest sits too: how many sit then. */
        private int reachOn(Hall hall, int guest, int taken, int limit) {
            int many = Integer.bitCount(taken);
            int reach = many;
            for (int c = 0; c < hall.chairs; c++) {
                if (isFree(hall, c, taken) && hall.timeFor(guest, c) <= limit) {
                    least[0][taken | 1 << c] = 1;
                    reach = many + 1;
                }
            }
            return reach;
        }
    }
}
