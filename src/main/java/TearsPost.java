import java.util.Arrays;
import java.util.NoSuchElementException;

/** A city whose houses are called by who last came out of them in tears, and its post. */
public final class TearsPost {
    public static final int NONE = -1;

    private static final int SPLIT = -2;

    private static final int MOST_BYTES = 700;
    private static final int FEED_BYTES = 20;
    private static final int MOST_HOUSES = 10;
    private static final int MOST_PEOPLE = 16;
    private static final int MOST_RULES = 4;
    private static final int MOST_ASKS = 6;
    private static final int MOST_TEARS = 200;
    private static final int MOST_LETTERS = 40;
    private static final int MOST_WRITTEN = 40;

    private static final int DAY_HOURS = 24;
    private static final int MOST_DAYS = 100;
    private static final int LAST_HOUR = 2399;
    private static final int MOST_GRIEF = 9;
    private static final int LAST_ROUND_DAY = 130;
    private static final int MOST_BEHIND_DAYS = 100;
    private static final int MOST_DRY_DAYS = 99;
    private static final int THOUSAND = 1000;
    private static final int MILLION = 1000000;
    private static final int SURE_CHANCE = 1000;

    /** As whom a HOUSE without a NAME and a mourner from outside stand in an EXPR. */
    private static final int NOBODY_KNOWN = 99;

    private static final int STATUS_TEXTS = 0;
    private static final int STATUS_TEARS = 1;
    private static final int STATUS_LETTERS = 2;
    private static final int STATUS_REGISTER = 3;
    private static final int STATUSES = 4;

    /** The numbers of TEARS, in the order of tears(). */
    private static final int TEARS_PERSON = 0;
    private static final int TEARS_HOUSE = 1;
    private static final int TEARS_HOUR = 2;
    private static final int TEARS_GRIEF = 3;
    private static final int TEARS_BEFORE = 4;
    private static final int TEARS_COUNT = 5;
    private static final int TEARS_WIDTH = 6;

    /** The VALUES of an EXPR, in the order in which the values' row holds them. */
    private static final int VALUE_HOUSE = 0;
    private static final int VALUE_PERSON = 1;
    private static final int VALUE_GRIEF = 2;
    private static final int VALUE_HIRED = 3;
    private static final int VALUE_DAY = 4;
    private static final int VALUE_HOUR = 5;
    private static final int VALUE_BEFORE = 6;
    private static final int VALUES = 7;

    /** An EXPR's code: a number from 0 on is itself, -1 and below are VALUES, then come these. */
    private static final int CODE_VALUE = -1;
    private static final int CODE_NOT = -8;
    private static final int CODE_OR = -9;
    private static final int CODE_AND = -10;
    private static final int CODE_LESS = -11;
    private static final int CODE_EQUAL = -12;
    private static final int CODE_PLUS = -13;
    private static final int CODE_MINUS = -14;
    private static final int CODE_TIMES = -15;
    private static final int CODE_BY = -16;
    private static final int CODE_END = -17;

    /** Kinds of TOKENS: what joins, VALUES and 'not' are their codes, these are the rest, words last. */
    private static final int TOKEN_END = 0;
    private static final int TOKEN_NUMBER = 1;
    private static final int TOKEN_NONE = 2;
    private static final int TOKEN_SEMICOLON = 3;
    private static final int TOKEN_OPEN = 4;
    private static final int TOKEN_CLOSE = 5;
    private static final int TOKEN_HOUSES = 6;
    private static final int TOKEN_WALK = 7;
    private static final int TOKEN_RULE = 8;
    private static final int TOKEN_ASK = 9;
    private static final int TOKEN_CHANCE = 10;
    private static final int TOKEN_WORD = 11;

    /** What a NUMBER of five digits or more is read as: above all that a text may tell. */
    private static final int TOO_LONG = 10000;

    private final Reader reader = new Reader();
    private final Records records = new Records();
    private final Records kept = new Records();
    private final Names names = new Names();
    private final Way way = new Way();
    private final Tour tour = new Tour();
    private final Finder finder = new Finder();
    private final Nun nun = new Nun();
    private final Odds odds = new Odds();
    private final int[] values = new int[VALUES];
    private City city = new City();
    private int faultPlace = NONE;
    private boolean imaged = false;

    public TearsPost() {
    }

    public int feed(int a, int b, int c, int d, int e) {
        if (reader.tokens.taped + FEED_BYTES > MOST_BYTES) {
            return NONE;
        }
        reader.tokens.tapeNumber(a);
        reader.tokens.tapeNumber(b);
        reader.tokens.tapeNumber(c);
        reader.tokens.tapeNumber(d);
        reader.tokens.tapeNumber(e);
        return reader.tokens.taped;
    }

    public int city(int n) throws IllegalArgumentException {
        if (n < 0 || n > reader.tokens.taped) {
            throw new IllegalArgumentException("the tape has not so many bytes");
        }
        int fault = reader.readCity(n);
        if (fault != 0) {
            faultPlace = reader.place();
            records.countRefused(STATUS_TEXTS);
            return fault;
        }
        City told = reader.draft;
        reader.draft = city;
        city = told;
        faultPlace = NONE;
        records.startAnew(told);
        tour.stops = 0;
        imaged = false;
        return 0;
    }

    public int fault() {
        return faultPlace;
    }

    public int count(int what) throws NoSuchElementException {
        switch (what) {
            case 0:
                return city.houses;
            case 1:
                return city.people;
            case 2:
                return city.rules;
            case 3:
                return city.asks;
            case 4:
                return records.tearsTold;
            case 5:
                return records.lettersWritten;
            case 6:
                return records.registered;
            case 7:
                return reader.tokens.taped;
            case 8:
                return records.nowHour();
            default:
                needWhat(what - 9, STATUSES);
                return at(records.status, what - 9);
        }
    }

    public int person(int person, int what) throws NoSuchElementException {
        needPerson(person);
        needWhat(what, 3);
        if (what == 0) {
            return at(records.homes, person);
        }
        return what == 1 ? at(city.chances, person) : at(city.hired, person);
    }

    public int walk(int house, int other) throws NoSuchElementException {
        needHouse(house);
        needHouse(other);
        return city.walkBetween(house, other);
    }

    public void move(int person, int house) throws NoSuchElementException {
        needPerson(person);
        needHouse(house);
        put(records.homes, person, house);
    }

    public int weep(int person, int hour, int grief) throws NoSuchElementException {
        needPerson(person);
        if (records.tearsTold >= MOST_TEARS || hour < records.nowHour() || hour > LAST_HOUR
                || grief < 0 || grief > MOST_GRIEF) {
            records.countRefused(STATUS_TEARS);
            return NONE;
        }
        int house = at(records.homes, person);
        int before = records.tearsOn(house, hour / DAY_HOURS);
        setValues(house, person, grief, at(city.hired, person), hour, before);
        records.tell(values, hour, city.rulesHold(values));
        return records.tearsTold;
    }

    public int tears(int tears, int what) throws NoSuchElementException {
        if (tears < 0 || tears >= records.tearsTold) {
            throw new NoSuchElementException("no such tears");
        }
        needWhat(what, TEARS_WIDTH);
        return records.tearsNumber(tears, what);
    }

    public int name(int house, int hour) throws NoSuchElementException {
        needHouse(house);
        needHour(hour);
        names.callAt(records, hour);
        return names.nameOf(records, house);
    }

    public int houses(int person, int hour) throws NoSuchElementException {
        needPerson(person);
        needHour(hour);
        names.callAt(records, hour);
        return names.housesOf(records, person);
    }

    public int letter(int person, int hour) throws NoSuchElementException {
        needPerson(person);
        needHour(hour);
        if (records.lettersWritten >= MOST_LETTERS) {
            records.countRefused(STATUS_LETTERS);
            return NONE;
        }
        records.writeLetter(person, hour);
        return records.lettersWritten - 1;
    }

    public int post(int letter, int what) throws NoSuchElementException {
        if (letter < 0 || letter >= records.lettersWritten) {
            throw new NoSuchElementException("no such letter");
        }
        needWhat(what, 6);
        way.follow(records, letter, names);
        switch (what) {
            case 0:
                return at(records.letterNames, letter);
            case 1:
                return at(records.letterHours, letter);
            case 2:
                return way.meant;
            case 3:
                return way.house;
            case 4:
                return way.day;
            default:
                return way.house != NONE && way.house != way.meant ? 1 : 0;
        }
    }

    public int round(int day) throws NoSuchElementException {
        if (day < 0 || day > LAST_ROUND_DAY) {
            throw new NoSuchElementException("no such day");
        }
        int reached = 0;
        for (int letter = 0; letter < records.lettersWritten; letter++) {
            way.follow(records, letter, names);
            if (way.day == day && way.house > 0) {
                reached |= 1 << way.house;
            }
        }
        return tour.plan(city, reached);
    }

    public int rounded(int i) throws NoSuchElementException {
        if (i < 0 || i >= tour.stops) {
            throw new NoSuchElementException("the round has no such house");
        }
        return at(tour.row, i);
    }

    public boolean holds(int ask, int house) throws NoSuchElementException {
        if (ask < 0 || ask >= city.asks) {
            throw new NoSuchElementException("no such ask");
        }
        needHouse(house);
        names.callAt(records, records.nowHour());
        return holdsNow(ask, house);
    }

    public int stranger(int houses, int what) throws NoSuchElementException, IllegalArgumentException {
        needWhat(what, 2);
        if (houses < 0 || houses >= 1 << city.houses) {
            throw new IllegalArgumentException("bits of houses that there are not");
        }
        names.callAt(records, records.nowHour());
        for (int ask = 0; ask < city.asks; ask++) {
            put(finder.answers, ask, housesOfAsk(ask, houses));
        }
        int fewest = finder.fewestOf(houses, city.asks);
        if (fewest >= Finder.NEVER) {
            return NONE;
        }
        return what == 0 ? fewest : finder.firstOf(houses, city.asks);
    }

    public int write(int person) throws NoSuchElementException {
        needPerson(person);
        if (records.registered >= MOST_WRITTEN) {
            records.countRefused(STATUS_REGISTER);
            return NONE;
        }
        put(records.register, records.registered, person);
        records.registered++;
        return records.registered;
    }

    public int clear() {
        int written = records.registered;
        records.registered = 0;
        return written;
    }

    public int register(int day, int what) throws NoSuchElementException {
        if (day < 0 || day >= MOST_DAYS) {
            throw new NoSuchElementException("no such day");
        }
        needWhat(what, 3);
        nun.compare(records, day);
        if (what == 0) {
            return nun.changes;
        }
        return what == 1 ? nun.gap : nun.trueOnes;
    }

    public int will(int person, int house, int from, int to, int what)
            throws NoSuchElementException, IllegalArgumentException {
        needPerson(person);
        needHouse(house);
        needHour(from);
        needHour(to);
        needWhat(what, 2);
        if (from > to) {
            throw new IllegalArgumentException("from is above to");
        }
        int hours = records.hoursCalled(house, person, from, to);
        if (what == 0) {
            return hours;
        }
        int together = 0;
        for (int other = 0; other < city.houses; other++) {
            together += records.hoursCalled(other, person, from, to);
        }
        return together == 0 ? 0 : hours * THOUSAND / together;
    }

    public int last(int person) throws NoSuchElementException {
        needPerson(person);
        return odds.lastOf(city, records.homes, person);
    }

    public int nobody(int house) throws NoSuchElementException {
        needHouse(house);
        return odds.nobodyOf(city, records.homes, house);
    }

    public int behind(int house, int person, int days)
            throws NoSuchElementException, IllegalArgumentException {
        needHouse(house);
        if (person != NONE) {
            needPerson(person);
        }
        if (days < 0 || days > MOST_BEHIND_DAYS) {
            throw new IllegalArgumentException("days are 0 to 100");
        }
        names.callAt(records, records.nowHour());
        int gain = 0;
        if (person != NONE && at(records.homes, person) == house) {
            gain = odds.lastOf(city, records.homes, person);
        }
        long nobody = odds.nobodyOf(city, records.homes, house);
        long chance = names.nameOf(records, house) == person ? MILLION : 0;
        for (int day = 0; day < days; day++) {
            chance = chance * nobody / MILLION + gain;
        }
        return (int) chance;
    }

    public int dry(int days) throws IllegalArgumentException {
        if (days < 1 || days > MOST_DRY_DAYS) {
            throw new IllegalArgumentException("days are 1 to 99");
        }
        return (1 << city.houses) - 1 & ~records.weptBehind(records.nowHour() - DAY_HOURS * days);
    }

    public int mourner(int house) throws NoSuchElementException {
        needHouse(house);
        int now = records.nowHour();
        setValues(house, NOBODY_KNOWN, 0, 1, now, records.tearsOn(house, now / DAY_HOURS));
        if (!city.rulesHold(values)) {
            return 0;
        }
        names.callAt(records, now);
        int worth = 0;
        for (int person = 0; person < city.people; person++) {
            int without = names.housesOf(records, person);
            int with = without & ~(1 << house);
            worth += (Integer.bitCount(with) == 1 ? 1 : 0) - (Integer.bitCount(without) == 1 ? 1 : 0);
        }
        return worth;
    }

    public void image() {
        kept.copyFrom(records);
        imaged = true;
    }

    public boolean restore() {
        if (imaged) {
            records.copyFrom(kept);
        }
        return imaged;
    }

    private void needPerson(int person) {
        if (person < 0 || person >= city.people) {
            throw new NoSuchElementException("no such person");
        }
    }

    private void needHouse(int house) {
        if (house < 0 || house >= city.houses) {
            throw new NoSuchElementException("no such house");
        }
    }

    private static void needHour(int hour) {
        if (hour < 0 || hour > LAST_HOUR) {
            throw new NoSuchElementException("no such hour");
        }
    }

    private static void needWhat(int what, int whats) {
        if (what < 0 || what >= whats) {
            throw new NoSuchElementException("no such what");
        }
    }

    private void setValues(int house, int person, int grief, int hired, int hour, int before) {
        put(values, VALUE_HOUSE, house);
        put(values, VALUE_PERSON, person);
        put(values, VALUE_GRIEF, grief);
        put(values, VALUE_HIRED, hired);
        put(values, VALUE_DAY, hour / DAY_HOURS);
        put(values, VALUE_HOUR, hour % DAY_HOURS);
        put(values, VALUE_BEFORE, before);
    }

    /** Whether an ASK holds of a HOUSE, by the names that were called last. */
    private boolean holdsNow(int ask, int house) {
        int tears = at(names.calledBy, house);
        if (tears == NONE) {
            setValues(house, NOBODY_KNOWN, 0, 0, 0, 0);
        } else {
            int person = records.tearsNumber(tears, TEARS_PERSON);
            setValues(house, person, records.tearsNumber(tears, TEARS_GRIEF), at(city.hired, person),
                    records.tearsNumber(tears, TEARS_HOUR), records.tearsNumber(tears, TEARS_BEFORE));
        }
        return city.askHolds(ask, values);
    }

    private int housesOfAsk(int ask, int houses) {
        int holding = 0;
        for (int house = 0; house < city.houses; house++) {
            if ((houses >> house & 1) == 1 && holdsNow(ask, house)) {
                holding |= 1 << house;
            }
        }
        return holding;
    }

    /** Every row is read and written by these two, so that no index goes by unlooked at. */
    private static int at(int[] row, int i) {
        return i >= 0 && i < row.length ? row[i] : 0;
    }

    private static void put(int[] row, int i, int number) {
        if (i >= 0 && i < row.length) {
            row[i] = number;
        }
    }

    private static void copyRow(int[] from, int[] to) {
        System.arraycopy(from, 0, to, 0, Math.min(from.length, to.length));
    }

    /** What a text tells, and what its RULES and ASKS answer. */
    private static final class City {
        /** An EXPR keeps five numbers waiting at most in each of six EXPRS round one another. */
        private static final int MOST_STACK = 64;
        private static final int UNTOLD_WALK = 10;

        private int houses;
        private int people;
        private int rules;
        private int asks;
        private int codes;
        private final int[] homes = new int[MOST_PEOPLE];
        private final int[] chances = new int[MOST_PEOPLE];
        private final int[] hired = new int[MOST_PEOPLE];
        private final int[] walks = new int[MOST_HOUSES * MOST_HOUSES];
        private final int[] ruleStarts = new int[MOST_RULES];
        private final int[] askStarts = new int[MOST_ASKS];
        private final int[] code = new int[MOST_BYTES];
        private final int[] stack = new int[MOST_STACK];

        private City() {
            empty();
        }

        private void empty() {
            houses = 1;
            people = 0;
            rules = 0;
            asks = 0;
            codes = 0;
            Arrays.fill(walks, UNTOLD_WALK);
        }

        private int walkBetween(int house, int other) {
            return house == other ? 0 : at(walks, house * MOST_HOUSES + other);
        }

        private void setWalk(int house, int other, int length) {
            put(walks, house * MOST_HOUSES + other, length);
            put(walks, other * MOST_HOUSES + house, length);
        }

        private void addCode(int number) {
            if (codes < code.length) {
                put(code, codes, number);
                codes++;
            }
        }

        private boolean rulesHold(int[] values) {
            for (int rule = 0; rule < rules; rule++) {
                if (exprValue(at(ruleStarts, rule), values) == 0) {
                    return false;
                }
            }
            return true;
        }

        private boolean askHolds(int ask, int[] values) {
            return exprValue(at(askStarts, ask), values) != 0;
        }

        private int exprValue(int begin, int[] values) {
            int height = 0;
            for (int i = begin; i < codes; i++) {
                int number = at(code, i);
                if (number == CODE_END) {
                    break;
                } else if (number >= 0) {
                    put(stack, height, number);
                    height++;
                } else if (number > CODE_NOT) {
                    put(stack, height, at(values, CODE_VALUE - number));
                    height++;
                } else if (number == CODE_NOT) {
                    put(stack, height - 1, at(stack, height - 1) == 0 ? 1 : 0);
                } else {
                    height--;
                    put(stack, height - 1, join(number, at(stack, height - 1), at(stack, height)));
                }
            }
            return at(stack, 0);
        }

        private static int join(int sign, int a, int b) {
            switch (sign) {
                case CODE_OR:
                    return a != 0 || b != 0 ? 1 : 0;
                case CODE_AND:
                    return a != 0 && b != 0 ? 1 : 0;
                case CODE_LESS:
                    return a < b ? 1 : 0;
                case CODE_EQUAL:
                    return a == b ? 1 : 0;
                case CODE_PLUS:
                    return a + b;
                case CODE_MINUS:
                    return a - b;
                case CODE_TIMES:
                    return a * b;
                default:
                    return b == 0 ? 0 : a / b;
            }
        }
    }

    /** The tape, and the TOKENS into which a text on it falls. */
    private static final class Tokens {
        private static final int MOST_DIGITS = 4;
        private static final int MOST_TOKENS = MOST_BYTES + 1;

        private final int[] tape = new int[MOST_BYTES];
        private int taped = 0;
        private int many = 0;
        private final int[] kinds = new int[MOST_TOKENS];
        private final int[] starts = new int[MOST_TOKENS];
        private final int[] numbers = new int[MOST_TOKENS];

        private void tapeNumber(int four) {
            for (int shift = 24; shift >= 0; shift -= 8) {
                put(tape, taped, four >> shift & 255);
                taped++;
            }
        }

        /** The tape's first bytes fall into TOKENS; behind them the tape is empty. */
        private void split(int bytes) {
            many = 0;
            taped = 0;
            int start = 0;
            for (int rows = 0; rows < bytes && start < bytes; rows++) {
                int end = endOf(start, bytes);
                if (!isBlank(at(tape, start))) {
                    add(kindOf(start, end), start, numberOf(start, end));
                }
                start = end;
            }
            add(TOKEN_END, bytes, 0);
        }

        private void add(int kind, int start, int number) {
            put(kinds, many, kind);
            put(starts, many, start);
            put(numbers, many, number);
            many++;
        }

        /** Letters and digits go on as long as their like do, all else stands alone. */
        private int endOf(int start, int bytes) {
            boolean letters = isLetter(at(tape, start));
            boolean digits = isDigit(at(tape, start));
            int end = start + 1;
            while (end < bytes && (letters && isLetter(at(tape, end)) || digits && isDigit(at(tape, end)))) {
                end++;
            }
            return end;
        }

        private int numberOf(int start, int end) {
            if (end - start > MOST_DIGITS) {
                return TOO_LONG;
            }
            int number = 0;
            for (int i = start; i < end; i++) {
                number = 10 * number + at(tape, i) - '0';
            }
            return number;
        }

        private int kindOf(int start, int end) {
            int first = at(tape, start);
            if (isDigit(first)) {
                return TOKEN_NUMBER;
            }
            if (!isLetter(first)) {
                return kindOfSign(first);
            }
            int kind = kindOfValue(start, end);
            return kind == TOKEN_WORD ? kindOfWord(start, end) : kind;
        }

        private static int kindOfSign(int sign) {
            switch (sign) {
                case ';':
                    return TOKEN_SEMICOLON;
                case '(':
                    return TOKEN_OPEN;
                case ')':
                    return TOKEN_CLOSE;
                case '+':
                    return CODE_PLUS;
                case '-':
                    return CODE_MINUS;
                case '*':
                    return CODE_TIMES;
                case '/':
                    return CODE_BY;
                case '<':
                    return CODE_LESS;
                case '=':
                    return CODE_EQUAL;
                default:
                    return TOKEN_NONE;
            }
        }

        private int kindOfValue(int start, int end) {
            if (isWord(start, end, "house")) {
                return CODE_VALUE - VALUE_HOUSE;
            }
            if (isWord(start, end, "person")) {
                return CODE_VALUE - VALUE_PERSON;
            }
            if (isWord(start, end, "grief")) {
                return CODE_VALUE - VALUE_GRIEF;
            }
            if (isWord(start, end, "hired")) {
                return CODE_VALUE - VALUE_HIRED;
            }
            if (isWord(start, end, "day")) {
                return CODE_VALUE - VALUE_DAY;
            }
            if (isWord(start, end, "hour")) {
                return CODE_VALUE - VALUE_HOUR;
            }
            return isWord(start, end, "before") ? CODE_VALUE - VALUE_BEFORE : TOKEN_WORD;
        }

        private int kindOfWord(int start, int end) {
            if (isWord(start, end, "not")) {
                return CODE_NOT;
            }
            if (isWord(start, end, "or")) {
                return CODE_OR;
            }
            if (isWord(start, end, "and")) {
                return CODE_AND;
            }
            if (isWord(start, end, "houses")) {
                return TOKEN_HOUSES;
            }
            if (isWord(start, end, "walk")) {
                return TOKEN_WALK;
            }
            if (isWord(start, end, "rule")) {
                return TOKEN_RULE;
            }
            if (isWord(start, end, "ask")) {
                return TOKEN_ASK;
            }
            return isWord(start, end, "chance") ? TOKEN_CHANCE : TOKEN_WORD;
        }

        private boolean isWord(int start, int end, String word) {
            if (end - start != word.length()) {
                return false;
            }
            for (int i = 0; i < word.length(); i++) {
                if (at(tape, start + i) != word.charAt(i)) {
                    return false;
                }
            }
            return true;
        }

        private static boolean isBlank(int sign) {
            return sign == ' ' || sign == '\n';
        }

        private static boolean isLetter(int sign) {
            return sign >= 'a' && sign <= 'z';
        }

        private static boolean isDigit(int sign) {
            return sign >= '0' && sign <= '9';
        }
    }

    /** How the TOKENS of a text are read, from the first on, into a draft of a CITY. */
    private static final class Reader {
        private static final int FAULT_PLACE = 1;
        private static final int FAULT_MUCH = 2;
        private static final int FAULT_UNKNOWN = 3;
        private static final int FAULT_SAME = 4;
        private static final int FAULT_FIRST = 5;

        /** How an EXPR binds, the loosest first. */
        private static final int LEVEL_OR = 0;
        private static final int LEVEL_AND = 1;
        private static final int LEVEL_TEST = 2;
        private static final int LEVEL_SUM = 3;
        private static final int LEVEL_PRODUCT = 4;
        private static final int LEVEL_PART = 5;

        private static final int MOST_NUMBER = 9999;
        private static final int MOST_NOTS = 6;
        private static final int MOST_EXPRS = 6;
        private static final int UNTOLD_CHANCE = 100;
        private static final int MOST_WALK = 99;

        private final Tokens tokens = new Tokens();
        private City draft = new City();
        private int token = 0;
        private int kind = TOKEN_END;
        private int number = 0;
        private int taken = 0;
        private int fault = 0;

        /** The FAULT, or 0; the latest TOKEN is then the one at which it stands. */
        private int readCity(int bytes) {
            tokens.split(bytes);
            draft.empty();
            fault = 0;
            goTo(0);
            boolean fine = true;
            for (int clause = 0; clause < MOST_BYTES && fine && kind != TOKEN_END; clause++) {
                fine = readClause(clause == 0) && take(TOKEN_SEMICOLON);
                draft.addCode(CODE_END);
            }
            return fault;
        }

        private int place() {
            return at(tokens.starts, token);
        }

        private void goTo(int next) {
            token = next;
            kind = at(tokens.kinds, next);
            number = at(tokens.numbers, next);
        }

        private boolean readClause(boolean first) {
            switch (kind) {
                case TOKEN_HOUSES:
                    return first ? readHouses() : refuse(FAULT_FIRST);
                case CODE_VALUE - VALUE_PERSON:
                    return readPerson();
                case TOKEN_WALK:
                    return readWalk();
                case TOKEN_RULE:
                    return beginRule() && readLevel(LEVEL_OR, 0);
                case TOKEN_ASK:
                    return beginAsk() && readLevel(LEVEL_OR, 0);
                default:
                    return refuse(FAULT_PLACE);
            }
        }

        private boolean readHouses() {
            goTo(token + 1);
            if (!takeNumber(1, MOST_HOUSES)) {
                return false;
            }
            draft.houses = taken;
            return true;
        }

        private boolean readPerson() {
            int person = draft.people;
            if (person >= MOST_PEOPLE) {
                return refuse(FAULT_MUCH);
            }
            goTo(token + 1);
            if (!takeHouse(NONE)) {
                return false;
            }
            put(draft.homes, person, taken);
            put(draft.chances, person, UNTOLD_CHANCE);
            if (kind == TOKEN_CHANCE) {
                goTo(token + 1);
                if (!takeNumber(0, SURE_CHANCE)) {
                    return false;
                }
                put(draft.chances, person, taken);
            }
            boolean hired = kind == CODE_VALUE - VALUE_HIRED;
            if (hired) {
                goTo(token + 1);
            }
            put(draft.hired, person, hired ? 1 : 0);
            draft.people++;
            return true;
        }

        private boolean readWalk() {
            goTo(token + 1);
            if (!takeHouse(NONE)) {
                return false;
            }
            int house = taken;
            if (!takeHouse(house)) {
                return false;
            }
            int other = taken;
            if (!takeNumber(1, MOST_WALK)) {
                return false;
            }
            draft.setWalk(house, other, taken);
            return true;
        }

        private boolean beginRule() {
            if (draft.rules >= MOST_RULES) {
                return refuse(FAULT_MUCH);
            }
            goTo(token + 1);
            put(draft.ruleStarts, draft.rules, draft.codes);
            draft.rules++;
            return true;
        }

        private boolean beginAsk() {
            if (draft.asks >= MOST_ASKS) {
                return refuse(FAULT_MUCH);
            }
            goTo(token + 1);
            put(draft.askStarts, draft.asks, draft.codes);
            draft.asks++;
            return true;
        }

        /** The depth is how many EXPRS stand round this one. */
        private boolean readLevel(int level, int depth) {
            if (level >= LEVEL_PART) {
                return readPart(depth);
            }
            if (level == LEVEL_TEST) {
                return readTest(depth);
            }
            if (!readLevel(level + 1, depth)) {
                return false;
            }
            for (int i = 0; i < MOST_BYTES && joins(level); i++) {
                int joining = kind;
                goTo(token + 1);
                if (!readLevel(level + 1, depth)) {
                    return false;
                }
                draft.addCode(joining);
            }
            return true;
        }

        private boolean readTest(int depth) {
            int nots = 0;
            while (nots < MOST_NOTS && kind == CODE_NOT) {
                nots++;
                goTo(token + 1);
            }
            if (kind == CODE_NOT) {
                return refuse(FAULT_MUCH);
            }
            if (!readLevel(LEVEL_SUM, depth)) {
                return false;
            }
            if (joins(LEVEL_TEST)) {
                int joining = kind;
                goTo(token + 1);
                if (!readLevel(LEVEL_SUM, depth)) {
                    return false;
                }
                draft.addCode(joining);
            }
            for (int i = 0; i < nots; i++) {
                draft.addCode(CODE_NOT);
            }
            return true;
        }

        private boolean readPart(int depth) {
            if (kind == TOKEN_NUMBER) {
                if (!takeNumber(0, MOST_NUMBER)) {
                    return false;
                }
                draft.addCode(taken);
                return true;
            }
            if (kind <= CODE_VALUE && kind > CODE_NOT) {
                draft.addCode(kind);
                goTo(token + 1);
                return true;
            }
            if (isWord()) {
                return refuse(FAULT_UNKNOWN);
            }
            if (!take(TOKEN_OPEN)) {
                return false;
            }
            if (depth + 1 >= MOST_EXPRS) {
                boolean can = kind == TOKEN_NUMBER || kind == TOKEN_OPEN || isWord();
                return refuse(can ? FAULT_MUCH : FAULT_PLACE);
            }
            return readLevel(LEVEL_OR, depth + 1) && take(TOKEN_CLOSE);
        }

        /** Whether the TOKEN joins two of the next level. */
        private boolean joins(int level) {
            switch (level) {
                case LEVEL_OR:
                    return kind == CODE_OR;
                case LEVEL_AND:
                    return kind == CODE_AND;
                case LEVEL_TEST:
                    return kind == CODE_LESS || kind == CODE_EQUAL;
                case LEVEL_SUM:
                    return kind == CODE_PLUS || kind == CODE_MINUS;
                case LEVEL_PRODUCT:
                    return kind == CODE_TIMES || kind == CODE_BY;
                default:
                    return false;
            }
        }

        private boolean isWord() {
            return kind <= CODE_VALUE && kind >= CODE_AND || kind >= TOKEN_HOUSES;
        }

        private boolean take(int due) {
            if (kind != due) {
                return refuse(FAULT_PLACE);
            }
            goTo(token + 1);
            return true;
        }

        private boolean takeNumber(int least, int most) {
            if (kind != TOKEN_NUMBER) {
                return refuse(FAULT_PLACE);
            }
            if (number < least || number > most) {
                return refuse(FAULT_MUCH);
            }
            taken = number;
            goTo(token + 1);
            return true;
        }

        /** A HOUSE that there is, and that is not the other one (NONE: any). */
        private boolean takeHouse(int other) {
            if (kind != TOKEN_NUMBER) {
                return refuse(FAULT_PLACE);
            }
            if (number >= draft.houses) {
                return refuse(number > MOST_NUMBER ? FAULT_MUCH : FAULT_UNKNOWN);
            }
            if (number == other) {
                return refuse(FAULT_SAME);
            }
            taken = number;
            goTo(token + 1);
            return true;
        }

        private boolean refuse(int why) {
            fault = why;
            return false;
        }
    }

    /** What an IMAGE keeps: TEARS, who lives where, LETTERS, the REGISTER, STATUS. */
    private static final class Records {
        private int tearsTold = 0;
        private int lettersWritten = 0;
        private int registered = 0;
        private final int[] tearsRow = new int[MOST_TEARS * TEARS_WIDTH];
        private final int[] letterNames = new int[MOST_LETTERS];
        private final int[] letterHours = new int[MOST_LETTERS];
        private final int[] register = new int[MOST_WRITTEN];
        private final int[] homes = new int[MOST_PEOPLE];
        private final int[] status = new int[STATUSES];

        private void startAnew(City city) {
            tearsTold = 0;
            lettersWritten = 0;
            registered = 0;
            copyRow(city.homes, homes);
        }

        private void copyFrom(Records other) {
            tearsTold = other.tearsTold;
            lettersWritten = other.lettersWritten;
            registered = other.registered;
            copyRow(other.tearsRow, tearsRow);
            copyRow(other.letterNames, letterNames);
            copyRow(other.letterHours, letterHours);
            copyRow(other.register, register);
            copyRow(other.homes, homes);
            copyRow(other.status, status);
        }

        private void countRefused(int what) {
            put(status, what, at(status, what) + 1);
        }

        private int tearsNumber(int tears, int what) {
            return at(tearsRow, tears * TEARS_WIDTH + what);
        }

        private int nowHour() {
            return tearsTold == 0 ? 0 : tearsNumber(tearsTold - 1, TEARS_HOUR);
        }

        private int dayOf(int tears) {
            return tearsNumber(tears, TEARS_HOUR) / DAY_HOURS;
        }

        /** How many TEARS came out of a HOUSE on a day. */
        private int tearsOn(int house, int day) {
            int many = 0;
            for (int i = 0; i < tearsTold; i++) {
                if (tearsNumber(i, TEARS_HOUSE) == house && dayOf(i) == day) {
                    many++;
                }
            }
            return many;
        }

        private void tell(int[] values, int hour, boolean counting) {
            int place = tearsTold * TEARS_WIDTH;
            put(tearsRow, place + TEARS_PERSON, at(values, VALUE_PERSON));
            put(tearsRow, place + TEARS_HOUSE, at(values, VALUE_HOUSE));
            put(tearsRow, place + TEARS_HOUR, hour);
            put(tearsRow, place + TEARS_GRIEF, at(values, VALUE_GRIEF));
            put(tearsRow, place + TEARS_BEFORE, at(values, VALUE_BEFORE));
            put(tearsRow, place + TEARS_COUNT, counting ? 1 : 0);
            tearsTold++;
        }

        private void writeLetter(int name, int hour) {
            put(letterNames, lettersWritten, name);
            put(letterHours, lettersWritten, hour);
            lettersWritten++;
        }

        /** At how many HOURS, from and to counted, a HOUSE had a NAME. */
        private int hoursCalled(int house, int name, int from, int to) {
            int hours = 0;
            int called = NONE;
            int since = from;
            for (int i = 0; i < tearsTold; i++) {
                int hour = tearsNumber(i, TEARS_HOUR);
                if (hour > to) {
                    break;
                }
                if (tearsNumber(i, TEARS_HOUSE) == house && tearsNumber(i, TEARS_COUNT) == 1) {
                    int until = Math.max(hour, from);
                    hours += called == name ? until - since : 0;
                    called = tearsNumber(i, TEARS_PERSON);
                    since = until;
                }
            }
            return called == name ? hours + to + 1 - since : hours;
        }

        /** The HOUSES, as bits, out of which TEARS that COUNT came above an HOUR. */
        private int weptBehind(int hour) {
            int wept = 0;
            for (int i = 0; i < tearsTold; i++) {
                if (tearsNumber(i, TEARS_HOUR) > hour && tearsNumber(i, TEARS_COUNT) == 1) {
                    wept |= 1 << tearsNumber(i, TEARS_HOUSE);
                }
            }
            return wept;
        }
    }

    /** By which TEARS each HOUSE is called at an HOUR; it goes on from HOUR to HOUR. */
    private static final class Names {
        private final int[] calledBy = new int[MOST_HOUSES];
        private int next = 0;

        private void callAt(Records records, int hour) {
            Arrays.fill(calledBy, NONE);
            next = 0;
            callOn(records, hour);
        }

        private void callOn(Records records, int hour) {
            while (next < records.tearsTold && records.tearsNumber(next, TEARS_HOUR) <= hour) {
                if (records.tearsNumber(next, TEARS_COUNT) == 1) {
                    put(calledBy, records.tearsNumber(next, TEARS_HOUSE), next);
                }
                next++;
            }
        }

        private int nameOf(Records records, int house) {
            int tears = at(calledBy, house);
            return tears == NONE ? NONE : records.tearsNumber(tears, TEARS_PERSON);
        }

        private int housesOf(Records records, int name) {
            int bits = 0;
            for (int house = 0; house < MOST_HOUSES; house++) {
                if (nameOf(records, house) == name) {
                    bits |= 1 << house;
                }
            }
            return bits;
        }

        private static int leastOf(int bits) {
            int house = 0;
            while (house < MOST_HOUSES && (bits >> house & 1) == 0) {
                house++;
            }
            return house;
        }
    }

    /** What becomes of a LETTER by the TEARS that are known. */
    private static final class Way {
        private static final int DAWN = 6;
        private static final int MOST_DAWNS = 30;
        private static final int SPLIT_DAWNS = 3;

        private int meant = NONE;
        private int house = NONE;
        private int day = NONE;

        private void follow(Records records, int letter, Names names) {
            int name = at(records.letterNames, letter);
            int hour = at(records.letterHours, letter);
            names.callAt(records, hour);
            meant = meantBy(names.housesOf(records, name));
            house = NONE;
            day = NONE;
            int first = (hour + DAY_HOURS - DAWN) / DAY_HOURS;
            int splits = 0;
            for (int dawn = first; dawn < first + MOST_DAWNS; dawn++) {
                names.callOn(records, dawn * DAY_HOURS + DAWN);
                int bits = names.housesOf(records, name);
                int many = Integer.bitCount(bits);
                splits += many > 1 ? 1 : 0;
                if (many == 1 || splits == SPLIT_DAWNS) {
                    house = Names.leastOf(bits);
                    day = dawn;
                    break;
                }
            }
        }

        private static int meantBy(int bits) {
            if (bits == 0) {
                return NONE;
            }
            return Integer.bitCount(bits) == 1 ? Names.leastOf(bits) : SPLIT;
        }
    }

    /** The ROUND that is kept, and how it is found. */
    private static final class Tour {
        private static final int WIDTH = MOST_HOUSES;

        private int stops = 0;
        private final int[] row = new int[MOST_HOUSES];
        /** HOUSE 0, then the HOUSES of the ROUND from the least on. */
        private final int[] ordered = new int[MOST_HOUSES];
        /** The least WALKS from one of these HOUSES through all of some (bits) back to HOUSE 0. */
        private final int[] least = new int[WIDTH << MOST_HOUSES - 1];

        private int plan(City city, int reached) {
            stops = 0;
            for (int house = 1; house < MOST_HOUSES; house++) {
                if ((reached >> house & 1) == 1) {
                    stops++;
                    put(ordered, stops, house);
                }
            }
            for (int some = 0; some < 1 << stops; some++) {
                for (int from = 0; from <= stops; from++) {
                    put(least, some * WIDTH + from, leastFrom(city, some, from));
                }
            }
            trace(city);
            return at(least, ((1 << stops) - 1) * WIDTH);
        }

        private int leastFrom(City city, int some, int from) {
            if (some == 0) {
                return city.walkBetween(at(ordered, from), 0);
            }
            int best = MILLION;
            for (int to = 1; to <= stops; to++) {
                if ((some >> to - 1 & 1) == 1) {
                    best = Math.min(best, leastBy(city, some, from, to));
                }
            }
            return best;
        }

        private int leastBy(City city, int some, int from, int to) {
            int rest = some & ~(1 << to - 1);
            return city.walkBetween(at(ordered, from), at(ordered, to)) + at(least, rest * WIDTH + to);
        }

        /** Of like rows the first: at each stop the least HOUSE by which the least sum is kept. */
        private void trace(City city) {
            int some = (1 << stops) - 1;
            int from = 0;
            for (int stop = 0; stop < stops; stop++) {
                int to = 1;
                while (to < stops && !isBest(city, some, from, to)) {
                    to++;
                }
                put(row, stop, at(ordered, to));
                some &= ~(1 << to - 1);
                from = to;
            }
        }

        private boolean isBest(City city, int some, int from, int to) {
            return (some >> to - 1 & 1) == 1
                    && leastBy(city, some, from, to) == at(least, some * WIDTH + from);
        }
    }

    /** How a STRANGER finds a HOUSE. */
    private static final class Finder {
        private static final int NEVER = 99;

        /** Of each ASK the HOUSES of which it holds, as bits. */
        private final int[] answers = new int[MOST_ASKS];
        private final int[] fewest = new int[1 << MOST_HOUSES];

        /** Sets of HOUSES, as bits, come behind all that are parts of them: parts are known by then. */
        private int fewestOf(int houses, int asks) {
            for (int some = 0; some <= houses; some++) {
                if ((some & houses) == some) {
                    put(fewest, some, fewestAmong(some, asks));
                }
            }
            return at(fewest, houses);
        }

        private int fewestAmong(int some, int asks) {
            if (Integer.bitCount(some) <= 1) {
                return 0;
            }
            int best = NEVER;
            for (int ask = 0; ask < asks; ask++) {
                best = Math.min(best, fewestBy(some, ask));
            }
            return best;
        }

        private int fewestBy(int some, int ask) {
            int yes = some & at(answers, ask);
            int no = some & ~yes;
            if (yes == 0 || no == 0) {
                return NEVER;
            }
            return 1 + Math.max(at(fewest, yes), at(fewest, no));
        }

        /** The least ASK by which it comes to the fewest; NONE, where nothing is to be asked. */
        private int firstOf(int houses, int asks) {
            if (at(fewest, houses) == 0) {
                return NONE;
            }
            for (int ask = 0; ask < asks; ask++) {
                if (fewestBy(houses, ask) == at(fewest, houses)) {
                    return ask;
                }
            }
            return NONE;
        }
    }

    /** THE REGISTER beside THE TRUE ROW of a day. */
    private static final class Nun {
        /** One change outweighs all left out, so the least cost has fewest changes, then most left out. */
        private static final int CHANGE = 1000;
        private static final int LEFT_OUT = CHANGE - 1;

        private int changes = 0;
        private int gap = 0;
        private int trueOnes = 0;
        /** The cost of the first ones of THE REGISTER, beside the TRUE ones that were added. */
        private final int[] costs = new int[MOST_WRITTEN + 1];

        private void compare(Records records, int day) {
            for (int j = 0; j <= records.registered; j++) {
                put(costs, j, j * CHANGE);
            }
            trueOnes = 0;
            for (int i = 0; i < records.tearsTold; i++) {
                if (records.dayOf(i) == day) {
                    addTrueOne(records, records.tearsNumber(i, TEARS_PERSON));
                    trueOnes++;
                }
            }
            int cost = at(costs, records.registered);
            changes = (cost + CHANGE - 1) / CHANGE;
            gap = changes * CHANGE - cost;
        }

        private void addTrueOne(Records records, int person) {
            int corner = at(costs, 0);
            put(costs, 0, corner + LEFT_OUT);
            for (int j = 1; j <= records.registered; j++) {
                int above = at(costs, j);
                int inPlace = corner + (at(records.register, j - 1) == person ? 0 : CHANGE);
                int putIn = at(costs, j - 1) + CHANGE;
                put(costs, j, Math.min(inPlace, Math.min(putIn, above + LEFT_OUT)));
                corner = above;
            }
        }
    }

    /** The ODDS of who comes out of a HOUSE last on a day. */
    private static final class Odds {
        /** By how many of the others come out. */
        private final int[] comings = new int[MOST_PEOPLE + 1];

        private int lastOf(City city, int[] homes, int person) {
            Arrays.fill(comings, 0);
            put(comings, 0, MILLION);
            int others = 0;
            for (int other = 0; other < city.people; other++) {
                if (other != person && at(homes, other) == at(homes, person)) {
                    others++;
                    addOther(others, at(city.chances, other));
                }
            }
            int together = 0;
            for (int many = 0; many <= others; many++) {
                together += at(comings, many) * at(city.chances, person) / SURE_CHANCE / (many + 1);
            }
            return together;
        }

        /** From the highest down, so that the one below is still as it was. */
        private void addOther(int others, int chance) {
            for (int many = others; many >= 0; many--) {
                int stays = at(comings, many) * (SURE_CHANCE - chance);
                int rises = at(comings, many - 1) * chance;
                put(comings, many, (stays + rises) / SURE_CHANCE);
            }
        }

        private int nobodyOf(City city, int[] homes, int house) {
            int nobody = MILLION;
            for (int person = 0; person < city.people; person++) {
                if (at(homes, person) == house) {
                    nobody = nobody * (SURE_CHANCE - at(city.chances, person)) / SURE_CHANCE;
                }
            }
            return nobody;
        }
    }
}
