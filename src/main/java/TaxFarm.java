import java.util.NoSuchElementException;

/** The tithe of a province by auction; what each call answers is promised in DOC.md. */
public final class TaxFarm {
    public static final int NONE = -1;

    private static final int REFUSED = -2;

    private static final int TAPE_LENGTH = 1000;
    private static final int BYTES = 8;
    private static final int LONGEST_WORD = 8;
    private static final int LONGEST_NUMBER = 4;

    private static final int TOWNS = 6;
    private static final int COMPANIES = 5;
    private static final int HARVESTS = 5;
    private static final int JURORS = 5;
    private static final int SETS = 1 << HARVESTS;
    private static final int LINES = 40;
    private static final int MARKS = 4;
    private static final int UNDONE = 16;
    private static final int LEASE = 5;
    private static final int BIDS = 10;

    private static final int MOST = 9999;
    private static final int MOST_MEANS = 999;
    private static final int MOST_GROWN = 300;
    private static final int MOST_ODDS = 9;
    private static final int MOST_PRICE = 999;
    private static final int MOST_BAR = 999;
    private static final int MOST_TOLD = 99999;
    private static final int MOST_GATHERED = 5;
    private static final int MOST_RATED = 20;
    private static final int MOST_LUSTRA = 50;
    private static final int HUNDRED = 100;
    private static final int QUARTERS = 4;
    private static final int PORT_MORE = 10;
    private static final int USUAL_TITHE = 10;
    private static final int USUAL_GIFT = 20;
    private static final int DEEPEST = 5;

    private static final int RICH = 1;
    private static final int PROUD = 2;
    private static final int PORT = 3;
    private static final int STRAW = 1;
    private static final int NOBLE = 2;
    private static final int FAIR = 3;

    private static final String STATEMENT_WORDS = "town company harvest juror tithe bar alone owes";
    private static final String LINE_WORDS = "bid award year take lend call spare bribe sue close";
    private static final String KIND_WORDS = "plain rich proud port";
    private static final String SORT_WORDS = "honest straw noble fair";
    private static final String OTHER_WORDS = "means coins grows odds holds price not and or";
    private static final String FACT_WORDS = "wealth crop debt";
    private static final String JOIN_WORDS = "and or";
    private static final String SIGNS = "()<=+-*;";

    private static final int STRANGE = 1;
    private static final int UNKNOWN = 2;
    private static final int AGAIN = 3;
    private static final int OUT_OF_RANGE = 4;
    private static final int TOO_MANY = 5;
    private static final int PLACE = 16;

    private final Tape tape = new Tape();
    private Province told = new Province();
    private Province draft = new Province();
    private Past past = new Past();
    private Past draftPast = new Past();
    private final State now = new State(told);
    private final State trial = new State(told);
    private final Trail trail = new Trail(told);
    private final State[] marks = new State[MARKS];
    private final int[] markTales = new int[MARKS * COMPANIES];
    private int laid = 0;
    private final int[] tales = new int[COMPANIES];
    private final Outlook outlook = new Outlook();
    private final Gathering gathering = new Gathering(told);
    private final Draws draws = new Draws();

    public TaxFarm() {
        for (int i = 0; i < MARKS; i++) {
            marks[i] = new State(told);
        }
        for (int i = 0; i < COMPANIES; i++) {
            tales[i] = NONE;
        }
    }

    public int feed(long a, long b, long c) {
        feedBytes(a);
        feedBytes(b);
        feedBytes(c);
        return tape.length;
    }

    private void feedBytes(long bytes) {
        for (int i = BYTES - 1; i >= 0; i--) {
            tape.put((char) ((bytes >>> (8 * i)) & 255L));
        }
    }

    public int province() {
        tape.start();
        if (draft.tellFrom(tape)) {
            Province elder = told;
            told = draft;
            draft = elder;
            startAnew();
        }
        return tape.empty();
    }

    private void startAnew() {
        now.begin(told);
        trail.forget();
        past.lines = 0;
        laid = 0;
        for (int i = 0; i < COMPANIES; i++) {
            tales[i] = NONE;
        }
    }

    public int past() {
        tape.start();
        if (draftPast.tellFrom(tape, told)) {
            Past elder = past;
            past = draftPast;
            draftPast = elder;
        }
        return tape.empty();
    }

    public int town(int town, int what) {
        if (!told.towns.has(town)) {
            return NONE;
        }
        switch (what) {
            case 0: return told.kinds[town];
            case 1: return now.means[town];
            case 2: return now.crops[town];
            case 3: return now.debts[town];
            case 4: return now.taken[town];
            case 5: return now.isSpared(town) ? 1 : 0;
            case 6: return told.titheOf(now.grown[town]);
            default: return NONE;
        }
    }

    public int company(int company, int what) {
        if (!told.companies.has(company)) {
            return NONE;
        }
        switch (what) {
            case 0: return told.sorts[company];
            case 1: return now.coins[company];
            case 2: return now.bids[company];
            default: return NONE;
        }
    }

    public int juror(int juror, int what) {
        if (!told.jurors.has(juror)) {
            return REFUSED;
        }
        switch (what) {
            case 0: return told.shares[juror];
            case 1: return told.prices[juror];
            case 2: return now.isBribed(juror) ? 1 : 0;
            case 3:
                if (!now.isHeld()) {
                    return NONE;
                }
                return now.letsGo(juror) ? 1 : 0;
            default: return REFUSED;
        }
    }

    public int holder() {
        return now.holder;
    }

    public boolean bid(int company, int coins) {
        trail.layDown(now);
        return trail.settle(now.placeBid(company, coins));
    }

    public int award() {
        trail.layDown(now);
        int answer = now.awardTop();
        trail.settle(answer != REFUSED);
        return answer;
    }

    public int year(int harvest) {
        trail.layDown(now);
        int answer = now.bringYear(harvest);
        trail.settle(answer != NONE);
        return answer;
    }

    public int take(int town, int coins) {
        trail.layDown(now);
        int answer = now.takeFrom(town, coins);
        trail.settle(answer != NONE);
        return answer;
    }

    public int lend(int town, int coins) {
        trail.layDown(now);
        int answer = now.lendTo(town, coins);
        trail.settle(answer != NONE);
        return answer;
    }

    public int call(int town, int coins) {
        trail.layDown(now);
        int answer = now.callIn(town, coins);
        trail.settle(answer != NONE);
        return answer;
    }

    public int spare(int town) {
        trail.layDown(now);
        int answer = now.spareTown(town);
        trail.settle(answer != NONE);
        return answer;
    }

    public boolean bribe(int juror) {
        trail.layDown(now);
        return trail.settle(now.bribeJuror(juror));
    }

    public int sue() {
        trail.layDown(now);
        int answer = now.sueHolder();
        trail.settle(answer != NONE);
        return answer;
    }

    public boolean close() {
        trail.layDown(now);
        return trail.settle(now.closeLease());
    }

    public boolean undo() {
        return trail.goBack(now);
    }

    public int judged(int what) {
        if (what < 0 || what > 2) {
            return REFUSED;
        }
        trial.begin(told);
        int wrong = past.playAll(trial);
        switch (what) {
            case 0: return wrong;
            case 1: return trial.paid;
            default: return trial.meansOfAll();
        }
    }

    public int worth(int harvests) {
        if (harvests <= 0 || harvests > told.allHarvests()) {
            return NONE;
        }
        outlook.foresee(now, NONE);
        return outlook.worthBy(harvests);
    }

    public int news() {
        if (told.harvests.count < 2) {
            return NONE;
        }
        outlook.foresee(now, NONE);
        return outlook.greatestNews();
    }

    public int gather(int town, int harvest, int years, int what) {
        if (!told.towns.has(town) || !told.harvests.has(harvest)
                || years < 1 || years > MOST_GATHERED || what < 0 || what >= years + 2) {
            return NONE;
        }
        gathering.seek(now, town, harvest, years);
        switch (what) {
            case 0: return gathering.bestCoins;
            case 1: return gathering.bestMeans;
            default: return gathering.bestRow[what - 2];
        }
    }

    public int rate(int town, int harvest, int years) {
        if (!told.towns.has(town) || !told.harvests.has(harvest) || years < 1 || years > MOST_RATED) {
            return NONE;
        }
        return gathering.highestRate(now, town, harvest, years);
    }

    public int free(int what) {
        if (what < 0 || what > 1 || !now.isHeld()) {
            return NONE;
        }
        int set = now.cheapestJurors();
        return what == 0 ? told.priceOf(set) : set;
    }

    public int agree(int company, int other) {
        if (!told.companies.has(company) || !told.companies.has(other) || company == other || now.isHeld()) {
            return NONE;
        }
        return now.savedBy(company, other);
    }

    public boolean tale(int company, int worth) {
        if (!told.companies.has(company) || worth < 0 || worth > MOST_TOLD) {
            return false;
        }
        tales[company] = worth;
        return true;
    }

    public int knew(int company, int what) {
        if (!told.companies.has(company) || what < 0 || what > 2 || tales[company] == NONE) {
            return NONE;
        }
        outlook.foresee(now, NONE);
        int sets = outlook.setsWorth(tales[company]);
        if (what == 0) {
            return Integer.bitCount(sets);
        }
        if (sets == 0) {
            return NONE;
        }
        return what == 1 ? outlook.inAll(sets) : outlook.inSome(sets);
    }

    public int secret() {
        int left = told.allHarvests();
        outlook.foresee(now, NONE);
        for (int i = 0; i < told.companies.count; i++) {
            if (tales[i] != NONE) {
                left &= outlook.inSome(outlook.setsWorth(tales[i]));
            }
        }
        return left;
    }

    public int next() {
        for (int i = 0; i < told.companies.count; i++) {
            if (tales[i] != NONE) {
                return outlook.bestParting(now, tales[i]);
            }
        }
        return NONE;
    }

    public int rests(int one, int other, int what) throws NoSuchElementException {
        if (one < 0 || one >= BIDS || other < 0 || other >= BIDS || what < NONE) {
            throw new NoSuchElementException("no such worth or number");
        }
        int found = 0;
        for (int bids = 0; bids < BIDS * BIDS; bids++) {
            if (areAtRest(one, other, bids / BIDS, bids % BIDS)) {
                if (found == what) {
                    return bids;
                }
                found++;
            }
        }
        if (what != NONE) {
            throw new NoSuchElementException("no such bids at rest");
        }
        return found;
    }

    private static boolean areAtRest(int one, int other, int bid, int against) {
        for (int changed = 0; changed < BIDS; changed++) {
            if (gain(one, changed, against) > gain(one, bid, against)
                    || gain(other, changed, bid) > gain(other, against, bid)) {
                return false;
            }
        }
        return true;
    }

    private static int gain(int worth, int bid, int against) {
        if (bid < against) {
            return 0;
        }
        return bid > against ? worth - bid : (worth - bid) / 2;
    }

    public int lustra(int seed, int years, int what) {
        if (seed < 0 || seed > MOST || years < 1 || years > MOST_LUSTRA || what < 0 || what > 2) {
            return NONE;
        }
        trial.copyFrom(now);
        draws.live(trial, seed, years);
        switch (what) {
            case 0: return trial.paid - now.paid;
            case 1: return draws.greed;
            default: return trial.meansOfAll();
        }
    }

    public boolean mark(int mark, boolean back) {
        if (mark < 0 || mark >= MARKS) {
            return false;
        }
        int first = mark * COMPANIES;
        if (!back) {
            marks[mark].copyFrom(now);
            System.arraycopy(tales, 0, markTales, first, COMPANIES);
            laid |= 1 << mark;
            return true;
        }
        if ((laid >> mark & 1) == 0) {
            return false;
        }
        now.copyFrom(marks[mark]);
        System.arraycopy(markTales, first, tales, 0, COMPANIES);
        trail.forget();
        return true;
    }

    public int count(int what) {
        switch (what) {
            case 0: return told.towns.count;
            case 1: return told.companies.count;
            case 2: return told.harvests.count;
            case 3: return told.jurors.count;
            case 4: return now.years;
            case 5: return now.had;
            case 6: return now.greed;
            case 7: return now.paid;
            case 8: return now.meansOfAll();
            case 9: return past.lines;
            case 10: return talesTold();
            case 11: return trail.size;
            case 12: return tape.length;
            default: return NONE;
        }
    }

    private int talesTold() {
        int found = 0;
        for (int i = 0; i < COMPANIES; i++) {
            if (tales[i] != NONE) {
                found++;
            }
        }
        return found;
    }

    private static int within(int value, int least, int most) {
        return Math.max(least, Math.min(most, value));
    }

    /** The tape, its tokens one at a time, and the first fault that was found in them. */
    private static final class Tape {
        static final int END = 0;
        static final int WORD = 1;
        static final int NUMBER = 2;
        static final int SIGN = 3;
        static final int WRONG = 4;

        /** Eight letters of five bits fit into a long, so that a word can be kept and compared as one. */
        private static final long LETTER = 32;

        private final char[] text = new char[TAPE_LENGTH];
        int length = 0;
        private int at = 0;
        private int place = 0;
        int kind = END;
        long word = 0;
        int number = 0;
        private char sign = ' ';
        private int fault = 0;

        void put(char fed) {
            boolean known = fed == '\n' || (fed >= 32 && fed <= 126);
            if (known && length < TAPE_LENGTH) {
                text[length] = fed;
                length++;
            }
        }

        void start() {
            at = 0;
            fault = 0;
            advance();
        }

        /** Answers the fault that was found since the start, or 0. */
        int empty() {
            length = 0;
            return fault;
        }

        void advance() {
            while (at < length && (text[at] == ' ' || text[at] == '\n')) {
                at++;
            }
            place = at;
            if (at >= length) {
                kind = END;
            } else if (text[at] >= 'a' && text[at] <= 'z') {
                scanWord();
            } else if (text[at] >= '0' && text[at] <= '9') {
                scanNumber();
            } else {
                sign = text[at];
                kind = SIGNS.indexOf(sign) >= 0 ? SIGN : WRONG;
                at++;
            }
        }

        private void scanWord() {
            word = 0;
            while (at < length && text[at] >= 'a' && text[at] <= 'z') {
                word = word * LETTER + (text[at] - 'a' + 1);
                at++;
            }
            kind = at - place <= LONGEST_WORD ? WORD : WRONG;
        }

        private void scanNumber() {
            number = 0;
            while (at < length && text[at] >= '0' && text[at] <= '9') {
                number = number * 10 + (text[at] - '0');
                at++;
            }
            kind = at - place <= LONGEST_NUMBER ? NUMBER : WRONG;
        }

        /** Keeps the first fault alone; answers false, for the caller to answer too. */
        boolean blame(int kindOfFault) {
            if (fault == 0) {
                fault = kindOfFault + PLACE * place;
            }
            return false;
        }

        /** Which of the words in a list (with one blank between) the token is, or NONE. */
        int wordAmong(String words) {
            if (kind != WORD) {
                return NONE;
            }
            int index = 0;
            long listed = 0;
            for (int i = 0; i < words.length(); i++) {
                if (words.charAt(i) != ' ') {
                    listed = listed * LETTER + (words.charAt(i) - 'a' + 1);
                } else if (listed == word) {
                    return index;
                } else {
                    listed = 0;
                    index++;
                }
            }
            return listed == word ? index : NONE;
        }

        boolean isSign(char wanted) {
            return kind == SIGN && sign == wanted;
        }

        boolean isName() {
            return kind == WORD && wordAmong(STATEMENT_WORDS) == NONE && wordAmong(LINE_WORDS) == NONE
                    && wordAmong(KIND_WORDS) == NONE && wordAmong(SORT_WORDS) == NONE
                    && wordAmong(OTHER_WORDS) == NONE;
        }

        int readAmong(String words) {
            int index = wordAmong(words);
            if (index == NONE) {
                blame(STRANGE);
            } else {
                advance();
            }
            return index;
        }

        boolean readSign(char wanted) {
            if (!isSign(wanted)) {
                return blame(STRANGE);
            }
            advance();
            return true;
        }

        /** A number from least to most, or NONE with a fault. */
        int readNumber(int least, int most) {
            if (kind != NUMBER) {
                blame(STRANGE);
                return NONE;
            }
            if (number < least || number > most) {
                blame(OUT_OF_RANGE);
                return NONE;
            }
            int read = number;
            advance();
            return read;
        }

        /** A word that must stand there and a number from least to most, or NONE with a fault. */
        int readNumberBehind(String word, int least, int most) {
            return readAmong(word) == NONE ? NONE : readNumber(least, most);
        }

        /** The number of a name in a roll, or NONE with a fault. */
        int readKnown(Roll roll) {
            if (!isName()) {
                blame(STRANGE);
                return NONE;
            }
            int index = roll.find(word);
            if (index == NONE) {
                blame(UNKNOWN);
            } else {
                advance();
            }
            return index;
        }
    }

    /** Names in the order in which they were told. */
    private static final class Roll {
        private final long[] names;
        int count = 0;

        Roll(int most) {
            names = new long[Math.max(0, most)];
        }

        boolean has(int index) {
            return index >= 0 && index < count;
        }

        boolean isFull() {
            return count >= names.length;
        }

        int find(long name) {
            for (int i = 0; i < count; i++) {
                if (names[i] == name) {
                    return i;
                }
            }
            return NONE;
        }

        /** The new name's number, or NONE if there is no room. */
        int enter(long name) {
            if (isFull()) {
                return NONE;
            }
            names[count] = name;
            count++;
            return count - 1;
        }
    }

    /** An E, kept as steps on a stack: a number is pushed, what is below 0 is a fact or an operation. */
    private static final class Law {
        private static final int AND = -1;
        private static final int OR = -2;
        private static final int LESS = -3;
        private static final int ALIKE = -4;
        private static final int PLUS = -5;
        private static final int MINUS = -6;
        private static final int TIMES = -7;
        private static final int NOT = -8;
        private static final int WEALTH = -9;
        private static final int CROP = -10;
        private static final int DEBT = -11;

        private static final int JOINED = 0;
        private static final int COMPARED = 1;
        private static final int ADDED = 2;
        private static final int MULTIPLIED = 3;
        private static final int PART = 4;

        /** Four values may wait at each of the levels of a PART within others. */
        private static final int STACK = 4 * (DEEPEST + 2);

        private final int[] steps = new int[TAPE_LENGTH];
        private int length = 0;
        private final int[] stack = new int[STACK];

        void beNumber(int number) {
            length = 0;
            add(number);
        }

        void beDebt() {
            length = 0;
            add(DEBT);
        }

        boolean tellFrom(Tape tape) {
            length = 0;
            return readChain(tape, JOINED, 0);
        }

        private void add(int step) {
            if (length < steps.length) {
                steps[length] = step;
                length++;
            }
        }

        /** Reads what is joined on one level, from the left; each operand is of the next level. */
        private boolean readChain(Tape tape, int level, int depth) {
            if (level >= PART) {
                return readPart(tape, depth);
            }
            if (!readChain(tape, level + 1, depth)) {
                return false;
            }
            for (int i = 0; i < TAPE_LENGTH; i++) {
                int operation = operationAt(tape, level);
                if (operation == 0) {
                    return true;
                }
                tape.advance();
                if (!readChain(tape, level + 1, depth)) {
                    return false;
                }
                add(operation);
                if (level == COMPARED) {
                    return true;
                }
            }
            return true;
        }

        /** The operation of a level that the token is, or 0. */
        private static int operationAt(Tape tape, int level) {
            switch (level) {
                case JOINED:
                    int joined = tape.wordAmong(JOIN_WORDS);
                    return joined == NONE ? 0 : AND - joined;
                case COMPARED:
                    return tape.isSign('<') ? LESS : tape.isSign('=') ? ALIKE : 0;
                case ADDED:
                    return tape.isSign('+') ? PLUS : tape.isSign('-') ? MINUS : 0;
                case MULTIPLIED:
                    return tape.isSign('*') ? TIMES : 0;
                default:
                    return 0;
            }
        }

        private boolean readPart(Tape tape, int depth) {
            int fact = tape.wordAmong(FACT_WORDS);
            boolean number = tape.kind == Tape.NUMBER;
            boolean open = tape.isSign('(');
            boolean not = tape.wordAmong("not") != NONE;
            if (fact == NONE && !number && !open && !not) {
                return tape.blame(STRANGE);
            }
            if (depth >= DEEPEST) {
                return tape.blame(TOO_MANY);
            }
            if (number) {
                add(tape.number);
            } else if (fact != NONE) {
                add(WEALTH - fact);
            }
            tape.advance();
            if (open) {
                return readChain(tape, JOINED, depth + 1) && tape.readSign(')');
            }
            if (not) {
                boolean good = readPart(tape, depth + 1);
                add(NOT);
                return good;
            }
            return true;
        }

        int valueOf(int wealth, int crop, int debt) {
            int height = 0;
            for (int i = 0; i < length; i++) {
                int step = steps[i];
                if (step >= 0 || step <= WEALTH) {
                    if (height < STACK) {
                        stack[height] = step >= 0 ? step : factOf(step, wealth, crop, debt);
                        height++;
                    }
                } else if (step == NOT) {
                    if (height >= 1) {
                        stack[height - 1] = stack[height - 1] == 0 ? 1 : 0;
                    }
                } else if (height >= 2) {
                    height--;
                    stack[height - 1] = join(step, stack[height - 1], stack[height]);
                }
            }
            return height > 0 ? stack[0] : 0;
        }

        private static int factOf(int step, int wealth, int crop, int debt) {
            switch (step) {
                case WEALTH: return wealth;
                case CROP: return crop;
                default: return debt;
            }
        }

        private static int join(int step, int left, int right) {
            switch (step) {
                case AND: return left != 0 && right != 0 ? 1 : 0;
                case OR: return left != 0 || right != 0 ? 1 : 0;
                case LESS: return left < right ? 1 : 0;
                case ALIKE: return left == right ? 1 : 0;
                case PLUS: return left + right;
                case MINUS: return left - right;
                default: return left * right;
            }
        }
    }

    /** What was told of a province: it stays as it is while years are played. */
    private static final class Province {
        private static final int TOWN = 0;
        private static final int COMPANY = 1;
        private static final int HARVEST = 2;
        private static final int JUROR = 3;
        private static final int TITHE = 4;
        private static final int BAR = 5;
        private static final int ALONE = 6;

        final Roll towns = new Roll(TOWNS);
        final Roll companies = new Roll(COMPANIES);
        final Roll harvests = new Roll(HARVESTS);
        final Roll jurors = new Roll(JURORS);
        final int[] kinds = new int[TOWNS];
        final int[] means = new int[TOWNS];
        final int[] sorts = new int[COMPANIES];
        final int[] coins = new int[COMPANIES];
        final int[] grows = new int[HARVESTS];
        final int[] odds = new int[HARVESTS];
        final int[] shares = new int[JURORS];
        final int[] prices = new int[JURORS];
        int tithe = USUAL_TITHE;
        int bar = 0;
        final Law alone = new Law();
        final Law owes = new Law();
        private int toldOnce = 0;

        Province() {
            alone.beNumber(USUAL_GIFT);
            owes.beDebt();
        }

        private void clear() {
            towns.count = 0;
            companies.count = 0;
            harvests.count = 0;
            jurors.count = 0;
            tithe = USUAL_TITHE;
            bar = 0;
            alone.beNumber(USUAL_GIFT);
            owes.beDebt();
            toldOnce = 0;
        }

        /** False, with a fault of the tape, if it is no province. */
        boolean tellFrom(Tape tape) {
            clear();
            for (int i = 0; i < TAPE_LENGTH && tape.kind != Tape.END; i++) {
                if (!readStatement(tape) || !tape.readSign(';')) {
                    return false;
                }
            }
            return true;
        }

        private boolean readStatement(Tape tape) {
            int statement = tape.wordAmong(STATEMENT_WORDS);
            if (!mayBegin(tape, statement)) {
                return false;
            }
            tape.advance();
            switch (statement) {
                case TOWN: return readTown(tape);
                case COMPANY: return readCompany(tape);
                case HARVEST: return readHarvest(tape);
                case JUROR: return readJuror(tape);
                case TITHE:
                    tithe = tape.readNumber(0, HUNDRED);
                    return tithe != NONE;
                case BAR:
                    bar = tape.readNumber(0, MOST_BAR);
                    return bar != NONE;
                case ALONE: return alone.tellFrom(tape);
                default: return owes.tellFrom(tape);
            }
        }

        private boolean mayBegin(Tape tape, int statement) {
            if (statement == NONE) {
                return tape.blame(STRANGE);
            }
            if (hasNoRoomFor(statement)) {
                return tape.blame(TOO_MANY);
            }
            if ((toldOnce >> statement & 1) != 0) {
                return tape.blame(AGAIN);
            }
            if (statement >= TITHE) {
                toldOnce |= 1 << statement;
            }
            return true;
        }

        private boolean hasNoRoomFor(int statement) {
            switch (statement) {
                case TOWN: return towns.isFull();
                case COMPANY: return companies.isFull();
                case HARVEST: return harvests.isFull();
                case JUROR: return jurors.isFull();
                default: return false;
            }
        }

        /** Enters a name that is new to all rolls into one: its number, or NONE with a fault. */
        private int readNew(Tape tape, Roll roll) {
            if (!tape.isName()) {
                tape.blame(STRANGE);
                return NONE;
            }
            long name = tape.word;
            if (towns.find(name) != NONE || companies.find(name) != NONE
                    || harvests.find(name) != NONE || jurors.find(name) != NONE) {
                tape.blame(AGAIN);
                return NONE;
            }
            tape.advance();
            return roll.enter(name);
        }

        private boolean readTown(Tape tape) {
            int town = readNew(tape, towns);
            if (town == NONE) {
                return false;
            }
            kinds[town] = tape.readAmong(KIND_WORDS);
            if (kinds[town] == NONE) {
                return false;
            }
            means[town] = tape.readNumberBehind("means", 0, MOST_MEANS);
            return means[town] != NONE;
        }

        private boolean readCompany(Tape tape) {
            int company = readNew(tape, companies);
            if (company == NONE) {
                return false;
            }
            sorts[company] = tape.readAmong(SORT_WORDS);
            if (sorts[company] == NONE) {
                return false;
            }
            coins[company] = tape.readNumberBehind("coins", 0, MOST);
            return coins[company] != NONE;
        }

        private boolean readHarvest(Tape tape) {
            int harvest = readNew(tape, harvests);
            if (harvest == NONE) {
                return false;
            }
            grows[harvest] = tape.readNumberBehind("grows", 0, MOST_GROWN);
            if (grows[harvest] == NONE) {
                return false;
            }
            odds[harvest] = tape.readNumberBehind("odds", 1, MOST_ODDS);
            return odds[harvest] != NONE;
        }

        private boolean readJuror(Tape tape) {
            int juror = readNew(tape, jurors);
            if (juror == NONE || tape.readAmong("holds") == NONE) {
                return false;
            }
            shares[juror] = tape.readKnown(companies);
            if (shares[juror] == NONE) {
                return false;
            }
            prices[juror] = tape.readNumberBehind("price", 0, MOST_PRICE);
            return prices[juror] != NONE;
        }

        int allHarvests() {
            return (1 << harvests.count) - 1;
        }

        int priceOf(int set) {
            int price = 0;
            for (int i = 0; i < jurors.count; i++) {
                if ((set >> i & 1) != 0) {
                    price += prices[i];
                }
            }
            return price;
        }

        /** Means when a year begins: half of what is left of the crop comes to them. */
        int meansWith(int means, int left) {
            return Math.min(MOST, means + left / 2);
        }

        int cropOf(int town, int means, int harvest) {
            int more = kinds[town] == PORT ? PORT_MORE : 0;
            return Math.min(MOST, means * grows[harvest] / HUNDRED + more);
        }

        int titheOf(int crop) {
            return crop * tithe / HUNDRED;
        }

        /** Means when so much greed has come to a town. */
        int meansBehind(int town, int means, int greed) {
            int harm = greed / 2;
            if (kinds[town] == PROUD) {
                harm = greed;
            } else if (kinds[town] == RICH) {
                harm = greed / 4;
            }
            return Math.max(0, means - harm);
        }
    }

    /** All that is played by hand and that UNDO brings back. */
    private static final class State {
        private Province told;
        final int[] means = new int[TOWNS];
        final int[] crops = new int[TOWNS];
        final int[] grown = new int[TOWNS];
        final int[] taken = new int[TOWNS];
        final int[] debts = new int[TOWNS];
        final int[] coins = new int[COMPANIES];
        final int[] bids = new int[COMPANIES];
        private int spared = 0;
        private int bribed = 0;
        int holder = NONE;
        int had = 0;
        int years = 0;
        int greed = 0;
        int paid = 0;

        State(Province told) {
            this.told = told;
        }

        void begin(Province province) {
            told = province;
            for (int i = 0; i < TOWNS; i++) {
                means[i] = province.means[i];
                crops[i] = 0;
                grown[i] = 0;
                taken[i] = 0;
                debts[i] = 0;
            }
            for (int i = 0; i < COMPANIES; i++) {
                coins[i] = province.coins[i];
                bids[i] = 0;
            }
            spared = 0;
            bribed = 0;
            holder = NONE;
            had = 0;
            years = 0;
            greed = 0;
            paid = 0;
        }

        void copyFrom(State from) {
            told = from.told;
            System.arraycopy(from.means, 0, means, 0, TOWNS);
            System.arraycopy(from.crops, 0, crops, 0, TOWNS);
            System.arraycopy(from.grown, 0, grown, 0, TOWNS);
            System.arraycopy(from.taken, 0, taken, 0, TOWNS);
            System.arraycopy(from.debts, 0, debts, 0, TOWNS);
            System.arraycopy(from.coins, 0, coins, 0, COMPANIES);
            System.arraycopy(from.bids, 0, bids, 0, COMPANIES);
            spared = from.spared;
            bribed = from.bribed;
            holder = from.holder;
            had = from.had;
            years = from.years;
            greed = from.greed;
            paid = from.paid;
        }

        boolean isHeld() {
            return holder >= 0 && holder < told.companies.count;
        }

        boolean isSpared(int town) {
            return (spared >> town & 1) != 0;
        }

        boolean isBribed(int juror) {
            return (bribed >> juror & 1) != 0;
        }

        int meansOfAll() {
            int sum = 0;
            for (int i = 0; i < told.towns.count; i++) {
                sum += means[i];
            }
            return sum;
        }

        boolean placeBid(int company, int bid) {
            if (isHeld() || !told.companies.has(company) || bid < 0 || bid > MOST || bid > coins[company]) {
                return false;
            }
            bids[company] = bid;
            return true;
        }

        /** Whose bid is the highest (of equal ones the first), or NONE if there is no bid. */
        private int topBidder() {
            int top = NONE;
            int highest = 0;
            for (int i = 0; i < told.companies.count; i++) {
                if (bids[i] > highest) {
                    highest = bids[i];
                    top = i;
                }
            }
            return top;
        }

        int awardTop() {
            int top = topBidder();
            if (isHeld() || top == NONE) {
                return REFUSED;
            }
            if (told.sorts[top] != STRAW) {
                int price = told.sorts[top] == NOBLE ? bids[top] * 3 / 4 : bids[top];
                coins[top] -= price;
                paid += price;
                holder = top;
            }
            for (int i = 0; i < COMPANIES; i++) {
                bids[i] = 0;
            }
            had = 0;
            greed = 0;
            bribed = 0;
            return holder;
        }

        int bringYear(int harvest) {
            if (!isHeld() || had >= LEASE || !told.harvests.has(harvest)) {
                return NONE;
            }
            int sum = 0;
            for (int i = 0; i < told.towns.count; i++) {
                means[i] = told.meansWith(means[i], crops[i]);
                debts[i] = within(told.owes.valueOf(means[i], 0, debts[i]), 0, MOST);
                crops[i] = told.cropOf(i, means[i], harvest);
                grown[i] = crops[i];
                taken[i] = 0;
                sum += crops[i];
            }
            spared = 0;
            had++;
            years++;
            return sum;
        }

        int takeFrom(int town, int amount) {
            if (!isHeld() || !told.towns.has(town) || isSpared(town)
                    || amount < 1 || amount > MOST || amount > crops[town]) {
                return NONE;
            }
            int tithe = told.titheOf(grown[town]);
            int before = Math.max(0, taken[town] - tithe);
            taken[town] += amount;
            int added = Math.max(0, taken[town] - tithe) - before;
            crops[town] -= amount;
            coins[holder] += amount;
            greed += added;
            means[town] = told.meansBehind(town, means[town], added);
            return added;
        }

        int lendTo(int town, int amount) {
            if (!isHeld() || !told.towns.has(town)
                    || amount < 1 || amount > MOST || amount > coins[holder]) {
                return NONE;
            }
            coins[holder] -= amount;
            means[town] = Math.min(MOST, means[town] + amount);
            debts[town] = Math.min(MOST, debts[town] + amount);
            return debts[town];
        }

        int callIn(int town, int amount) {
            if (!isHeld() || !told.towns.has(town)
                    || amount < 1 || amount > debts[town] || amount > means[town]) {
                return NONE;
            }
            means[town] -= amount;
            debts[town] -= amount;
            coins[holder] += amount;
            return debts[town];
        }

        int spareTown(int town) {
            if (!isHeld() || !told.towns.has(town) || isSpared(town)) {
                return NONE;
            }
            int worth = told.alone.valueOf(means[town], crops[town], debts[town]);
            // The means are the most, so that cutting first keeps twice of it from wrapping.
            int gift = within(worth, 0, means[town]);
            if (told.kinds[town] == RICH) {
                gift = Math.min(2 * gift, means[town]);
            }
            means[town] -= gift;
            coins[holder] += gift;
            spared |= 1 << town;
            return gift;
        }

        boolean bribeJuror(int juror) {
            if (!isHeld() || !told.jurors.has(juror) || isBribed(juror)
                    || told.prices[juror] > coins[holder]) {
                return false;
            }
            coins[holder] -= told.prices[juror];
            bribed |= 1 << juror;
            return true;
        }

        boolean letsGo(int juror) {
            if (!isHeld() || !told.jurors.has(juror)) {
                return false;
            }
            int bar = told.sorts[holder] == FAIR ? 2 * told.bar : told.bar;
            return told.shares[juror] == holder || isBribed(juror) || greed <= bar;
        }

        /** The jurors who would let the holder go, as bits. */
        private int friends() {
            int set = 0;
            for (int i = 0; i < told.jurors.count; i++) {
                if (letsGo(i)) {
                    set |= 1 << i;
                }
            }
            return set;
        }

        private boolean isEnough(int friends) {
            return 2 * Integer.bitCount(friends) >= told.jurors.count;
        }

        int sueHolder() {
            if (!isHeld()) {
                return NONE;
            }
            boolean free = isEnough(friends());
            if (!free) {
                int fine = Math.min(coins[holder], 2 * greed);
                coins[holder] -= fine;
                paid += fine;
                holder = NONE;
            }
            greed = 0;
            bribed = 0;
            return free ? 1 : 0;
        }

        boolean closeLease() {
            if (!isHeld() || had < LEASE) {
                return false;
            }
            holder = NONE;
            return true;
        }

        /** The jurors to be bribed for the fewest coins; of equal ones the least set. */
        int cheapestJurors() {
            int friends = friends();
            int best = NONE;
            for (int set = 0; set < 1 << told.jurors.count; set++) {
                if ((set & friends) == 0 && isEnough(set | friends)
                        && (best == NONE || told.priceOf(set) < told.priceOf(best))) {
                    best = set;
                }
            }
            return best;
        }

        int savedBy(int company, int partner) {
            int top = topBidder();
            if (top == NONE || (top != company && top != partner) || told.sorts[top] == STRAW) {
                return 0;
            }
            int highest = 0;
            for (int i = 0; i < told.companies.count; i++) {
                if (i != company && i != partner) {
                    highest = Math.max(highest, bids[i]);
                }
            }
            return Math.max(0, bids[top] - highest - 1);
        }
    }

    /** The states ahead of what was done last, so that it can be undone. */
    private static final class Trail {
        /** One more than can be undone: a state is laid down ahead of what may still be refused. */
        private static final int SLOTS = UNDONE + 1;

        private final State[] slots = new State[SLOTS];
        private int free = 0;
        int size = 0;

        Trail(Province told) {
            for (int i = 0; i < SLOTS; i++) {
                slots[i] = new State(told);
            }
        }

        void forget() {
            size = 0;
        }

        void layDown(State now) {
            slots[free].copyFrom(now);
        }

        /** Keeps what was laid down if something was done; answers that. */
        boolean settle(boolean done) {
            if (done) {
                free = (free + 1) % SLOTS;
                size = Math.min(UNDONE, size + 1);
            }
            return done;
        }

        boolean goBack(State now) {
            if (size == 0) {
                return false;
            }
            free = (free + SLOTS - 1) % SLOTS;
            size--;
            now.copyFrom(slots[free]);
            return true;
        }
    }

    /** The lines of a past. */
    private static final class Past {
        private static final int BID = 0;
        private static final int AWARD = 1;
        private static final int YEAR = 2;
        private static final int TAKE = 3;
        private static final int LEND = 4;
        private static final int CALL = 5;
        private static final int SPARE = 6;
        private static final int BRIBE = 7;
        private static final int SUE = 8;

        int lines = 0;
        private final int[] deeds = new int[LINES];
        private final int[] whom = new int[LINES];
        private final int[] amounts = new int[LINES];

        /** False, with a fault of the tape, if it is no past of the province. */
        boolean tellFrom(Tape tape, Province told) {
            lines = 0;
            for (int i = 0; i < TAPE_LENGTH && tape.kind != Tape.END; i++) {
                if (!readLine(tape, told)) {
                    return false;
                }
            }
            return true;
        }

        private boolean readLine(Tape tape, Province told) {
            int deed = tape.wordAmong(LINE_WORDS);
            if (deed == NONE) {
                return tape.blame(STRANGE);
            }
            if (lines >= LINES) {
                return tape.blame(TOO_MANY);
            }
            tape.advance();
            deeds[lines] = deed;
            if (!readWhom(tape, told, deed) || !readAmount(tape, deed) || !tape.readSign(';')) {
                return false;
            }
            lines++;
            return true;
        }

        private boolean readWhom(Tape tape, Province told, int deed) {
            switch (deed) {
                case BID:
                    whom[lines] = tape.readKnown(told.companies);
                    break;
                case YEAR:
                    whom[lines] = tape.readKnown(told.harvests);
                    break;
                case TAKE:
                case LEND:
                case CALL:
                case SPARE:
                    whom[lines] = tape.readKnown(told.towns);
                    break;
                case BRIBE:
                    whom[lines] = tape.readKnown(told.jurors);
                    break;
                default:
                    whom[lines] = 0;
            }
            return whom[lines] != NONE;
        }

        private boolean readAmount(Tape tape, int deed) {
            switch (deed) {
                case BID:
                    amounts[lines] = tape.readNumber(0, MOST);
                    break;
                case TAKE:
                case LEND:
                case CALL:
                    amounts[lines] = tape.readNumber(1, MOST);
                    break;
                default:
                    amounts[lines] = 0;
            }
            return amounts[lines] != NONE;
        }

        /** Plays all lines that can be: the first one that can't be, or NONE. */
        int playAll(State state) {
            int wrong = NONE;
            for (int i = 0; i < lines; i++) {
                if (!play(state, deeds[i], whom[i], amounts[i]) && wrong == NONE) {
                    wrong = i;
                }
            }
            return wrong;
        }

        private static boolean play(State state, int deed, int who, int amount) {
            switch (deed) {
                case BID: return state.placeBid(who, amount);
                case AWARD: return state.awardTop() != REFUSED;
                case YEAR: return state.bringYear(who) != NONE;
                case TAKE: return state.takeFrom(who, amount) != NONE;
                case LEND: return state.lendTo(who, amount) != NONE;
                case CALL: return state.callIn(who, amount) != NONE;
                case SPARE: return state.spareTown(who) != NONE;
                case BRIBE: return state.bribeJuror(who);
                case SUE: return state.sueHolder() != NONE;
                default: return state.closeLease();
            }
        }
    }

    /** What a year is worth by sets of harvests; many sets are themselves one int, of a bit each. */
    private static final class Outlook {
        private final int[] tithes = new int[HARVESTS];
        private final int[] odds = new int[HARVESTS];
        private final int[] worths = new int[SETS];
        private int all = 0;

        /** Looks at a year that would come now, with one more of a town's means (NONE: of none). */
        void foresee(State state, int richer) {
            Province told = state.told;
            all = told.allHarvests();
            for (int h = 0; h < told.harvests.count; h++) {
                odds[h] = told.odds[h];
                tithes[h] = 0;
                for (int t = 0; t < told.towns.count; t++) {
                    int means = t == richer ? Math.min(MOST, state.means[t] + 1) : state.means[t];
                    int crop = told.cropOf(t, told.meansWith(means, state.crops[t]), h);
                    tithes[h] += told.titheOf(crop);
                }
            }
        }

        int worthBy(int set) {
            int sum = 0;
            int weight = 0;
            for (int h = 0; h < HARVESTS; h++) {
                if ((set & all & 1 << h) != 0) {
                    sum += odds[h] * tithes[h];
                    weight += odds[h];
                }
            }
            return weight > 0 ? sum / weight : 0;
        }

        int greatestNews() {
            int best = NONE;
            int greatest = NONE;
            for (int h = 0; h < HARVESTS && 1 << h <= all; h++) {
                int change = Math.abs(worthBy(all & ~(1 << h)) - worthBy(all));
                if (change > greatest) {
                    greatest = change;
                    best = h;
                }
            }
            return best;
        }

        int setsWorth(int worth) {
            int sets = 0;
            for (int set = 1; set <= all && set < SETS; set++) {
                if (worthBy(set) == worth) {
                    sets |= 1 << set;
                }
            }
            return sets;
        }

        int inAll(int sets) {
            int common = all;
            for (int set = 1; set < SETS; set++) {
                if ((sets >>> set & 1) != 0) {
                    common &= set;
                }
            }
            return common;
        }

        int inSome(int sets) {
            int any = 0;
            for (int set = 1; set < SETS; set++) {
                if ((sets >>> set & 1) != 0) {
                    any |= set;
                }
            }
            return any;
        }

        /** The town one of whose means more parts the sets that are worth so much most, or NONE. */
        int bestParting(State state, int worth) {
            foresee(state, NONE);
            int sets = setsWorth(worth);
            int least = Integer.bitCount(sets);
            int best = NONE;
            for (int t = 0; t < state.told.towns.count; t++) {
                foresee(state, t);
                int greatest = mostAlike(sets);
                if (greatest < least) {
                    least = greatest;
                    best = t;
                }
            }
            return best;
        }

        /** How many of the sets are worth alike at the most. */
        private int mostAlike(int sets) {
            int greatest = 0;
            for (int set = 1; set < SETS; set++) {
                worths[set] = (sets >>> set & 1) != 0 ? worthBy(set) : NONE;
                int alike = 0;
                for (int elder = 1; elder <= set; elder++) {
                    if (worths[set] != NONE && worths[elder] == worths[set]) {
                        alike++;
                    }
                }
                greatest = Math.max(greatest, alike);
            }
            return greatest;
        }
    }

    /** A town's years with one harvest, in each of which something is taken at once. */
    private static final class Gathering {
        private Province told;
        private int town = 0;
        private int harvest = 0;
        private int years = 0;
        private final int[] row = new int[MOST_GATHERED];
        final int[] bestRow = new int[MOST_GATHERED];
        int bestCoins = NONE;
        int bestMeans = NONE;

        Gathering(Province told) {
            this.told = told;
        }

        void seek(State now, int town, int harvest, int years) {
            this.told = now.told;
            this.town = town;
            this.harvest = harvest;
            this.years = Math.min(years, MOST_GATHERED);
            bestCoins = NONE;
            bestMeans = NONE;
            gatherFrom(0, now.means[town], now.crops[town], 0);
        }

        /** Tries all quarters of a year and of those behind it, the least first. */
        private void gatherFrom(int year, int means, int left, int coins) {
            if (year >= years) {
                keepIfBetter(means, coins);
                return;
            }
            int begun = told.meansWith(means, left);
            int crop = told.cropOf(town, begun, harvest);
            for (int quarters = 0; quarters <= QUARTERS; quarters++) {
                int amount = crop * quarters / QUARTERS;
                row[year] = quarters;
                gatherFrom(year + 1, meansLeft(begun, crop, amount), crop - amount, coins + amount);
            }
        }

        private int meansLeft(int means, int crop, int amount) {
            return told.meansBehind(town, means, Math.max(0, amount - told.titheOf(crop)));
        }

        private void keepIfBetter(int means, int coins) {
            if (coins > bestCoins || (coins == bestCoins && means > bestMeans)) {
                bestCoins = coins;
                bestMeans = means;
                System.arraycopy(row, 0, bestRow, 0, MOST_GATHERED);
            }
        }

        int highestRate(State now, int town, int harvest, int years) {
            this.told = now.told;
            this.town = town;
            this.harvest = harvest;
            for (int rate = HUNDRED; rate > 0; rate--) {
                if (meansByRate(rate, years, now.means[town], now.crops[town]) >= now.means[town]) {
                    return rate;
                }
            }
            return 0;
        }

        private int meansByRate(int rate, int years, int means, int left) {
            int meansNow = means;
            int leftNow = left;
            for (int year = 0; year < years; year++) {
                meansNow = told.meansWith(meansNow, leftNow);
                int crop = told.cropOf(town, meansNow, harvest);
                int amount = crop * rate / HUNDRED;
                meansNow = meansLeft(meansNow, crop, amount);
                leftNow = crop - amount;
            }
            return meansNow;
        }
    }

    /** Years that are lived by draws. */
    private static final class Draws {
        private long drawn = 0;
        int greed = 0;

        void live(State state, int seed, int years) {
            drawn = seed;
            greed = 0;
            for (int i = 0; i < years; i++) {
                if (!state.isHeld()) {
                    auction(state);
                }
                if (state.isHeld() && state.told.harvests.count > 0) {
                    liveYear(state);
                }
            }
        }

        private int drawBelow(int most) {
            drawn = (drawn * 1103515245L + 12345L) % 2147483648L;
            return most > 0 ? (int) (drawn / 65536L % most) : 0;
        }

        private void auction(State state) {
            for (int i = 0; i < state.told.companies.count; i++) {
                state.placeBid(i, drawBelow(100));
            }
            state.awardTop();
        }

        private void liveYear(State state) {
            state.bringYear(drawHarvest(state.told));
            for (int i = 0; i < state.told.towns.count; i++) {
                visit(state, i);
            }
            if (state.had >= LEASE) {
                state.sueHolder();
                state.closeLease();
            }
        }

        private int drawHarvest(Province told) {
            int sum = 0;
            for (int i = 0; i < told.harvests.count; i++) {
                sum += told.odds[i];
            }
            int rest = drawBelow(sum);
            int harvest = 0;
            while (harvest < told.harvests.count - 1 && rest >= told.odds[harvest]) {
                rest -= told.odds[harvest];
                harvest++;
            }
            return harvest;
        }

        private void visit(State state, int town) {
            int choice = drawBelow(3);
            if (choice == 2) {
                state.spareTown(town);
                return;
            }
            int amount = choice == 0 ? state.told.titheOf(state.grown[town]) : state.crops[town] / 2;
            int added = state.takeFrom(town, amount);
            if (added != NONE) {
                greed += added;
            }
        }
    }
}
