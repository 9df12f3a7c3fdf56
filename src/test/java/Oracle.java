import java.util.ArrayList;
import java.util.HashMap;
import java.util.List;
import java.util.Map;
import java.util.NoSuchElementException;

/** The document once more, by other and slower ways, so that the two can be held side by side. */
final class Oracle {
    private static final String VALUE_WORDS = " house person grief hired day hour before ";

    private record Token(char kind, String text, int place) {
    }

    private record Tears(int person, int house, int hour, int grief, int before, boolean counts) {
    }

    private record Letter(int name, int hour) {
    }

    private record Came(int house, int day) {
    }

    private static final class Fault extends RuntimeException {
        private static final long serialVersionUID = 1;
        private final int code;
        private final int place;

        private Fault(int code, int place) {
            this.code = code;
            this.place = place;
        }
    }

    private static final class Told {
        private int houses = 1;
        private final List<Integer> homes = new ArrayList<>();
        private final List<Integer> chances = new ArrayList<>();
        private final List<Boolean> hired = new ArrayList<>();
        private final Map<String, Integer> walks = new HashMap<>();
        private final List<List<Token>> rules = new ArrayList<>();
        private final List<List<Token>> asks = new ArrayList<>();
    }

    private static final class Kept {
        private List<Tears> tears = new ArrayList<>();
        private List<Integer> homes = new ArrayList<>();
        private List<Letter> letters = new ArrayList<>();
        private List<Integer> register = new ArrayList<>();
        private int[] status = new int[4];

        private Kept copy() {
            Kept copy = new Kept();
            copy.tears = new ArrayList<>(tears);
            copy.homes = new ArrayList<>(homes);
            copy.letters = new ArrayList<>(letters);
            copy.register = new ArrayList<>(register);
            copy.status = status.clone();
            return copy;
        }
    }

    private String tape = "";
    private Told city = new Told();
    private Kept now = new Kept();
    private Kept image = null;
    private List<Integer> row = new ArrayList<>();
    private int faultPlace = -1;

    int feed(int... five) {
        if (tape.length() + 20 > 700) {
            return -1;
        }
        StringBuilder more = new StringBuilder(tape);
        for (int four : five) {
            more.append((char) (four >>> 24)).append((char) (four >>> 16 & 255));
            more.append((char) (four >>> 8 & 255)).append((char) (four & 255));
        }
        tape = more.toString();
        return tape.length();
    }

    int city(int n) {
        if (n < 0 || n > tape.length()) {
            throw new IllegalArgumentException();
        }
        String text = tape.substring(0, n);
        tape = "";
        try {
            city = new Reading(text).told();
        } catch (Fault fault) {
            faultPlace = fault.place;
            now.status[0]++;
            return fault.code;
        }
        int[] status = now.status;
        now = new Kept();
        now.status = status;
        now.homes = new ArrayList<>(city.homes);
        image = null;
        row = new ArrayList<>();
        faultPlace = -1;
        return 0;
    }

    /** Reads as a machine of states: what may stand next, and what stands too much. */
    private static final class Reading {
        private final List<Token> tokens = new ArrayList<>();
        private final Told told = new Told();
        private int at = 0;

        private Reading(String text) {
            int i = 0;
            while (i < text.length()) {
                int from = i;
                char sign = text.charAt(i++);
                if (sign == ' ' || sign == '\n') {
                    continue;
                }
                char kind = kindOf(sign);
                while ((kind == 'w' || kind == 'n') && i < text.length() && kindOf(text.charAt(i)) == kind) {
                    i++;
                }
                tokens.add(new Token(kind, text.substring(from, i), from));
            }
            tokens.add(new Token('e', "", text.length()));
        }

        private static char kindOf(char sign) {
            if (sign >= 'a' && sign <= 'z') {
                return 'w';
            }
            return sign >= '0' && sign <= '9' ? 'n' : ";()+-*/<=".indexOf(sign) >= 0 ? 's' : '?';
        }

        private Token here() {
            return tokens.get(at);
        }

        private Fault fault(int code) {
            return new Fault(code, here().place);
        }

        private int number(int least, int most) {
            if (here().kind != 'n') {
                throw fault(1);
            }
            if (here().text.length() > 4 || Integer.parseInt(here().text) < least
                    || Integer.parseInt(here().text) > most) {
                throw fault(2);
            }
            return Integer.parseInt(tokens.get(at++).text);
        }

        private int house(int not) {
            int from = at;
            int house = number(0, 9999);
            at = from;
            if (house >= told.houses) {
                throw fault(3);
            }
            if (house == not) {
                throw fault(4);
            }
            at++;
            return house;
        }

        private Told told() {
            boolean first = true;
            while (here().kind != 'e') {
                clause(here().text, first);
                first = false;
                if (!here().text.equals(";")) {
                    throw fault(1);
                }
                at++;
            }
            return told;
        }

        private void clause(String word, boolean first) {
            if (word.equals("houses")) {
                if (!first) {
                    throw fault(5);
                }
                at++;
                told.houses = number(1, 10);
            } else if (word.equals("person")) {
                person();
            } else if (word.equals("walk")) {
                at++;
                int house = house(-1);
                int other = house(house);
                int length = number(1, 99);
                told.walks.put(house + "-" + other, length);
                told.walks.put(other + "-" + house, length);
            } else if (word.equals("rule")) {
                told.rules.add(expr(told.rules.size() == 4));
            } else if (word.equals("ask")) {
                told.asks.add(expr(told.asks.size() == 6));
            } else {
                throw fault(1);
            }
        }

        private void person() {
            if (told.homes.size() == 16) {
                throw fault(2);
            }
            at++;
            told.homes.add(house(-1));
            boolean chance = here().text.equals("chance");
            at += chance ? 1 : 0;
            told.chances.add(chance ? number(0, 1000) : 100);
            boolean hired = here().text.equals("hired");
            at += hired ? 1 : 0;
            told.hired.add(hired);
        }

        private List<Token> expr(boolean full) {
            if (full) {
                throw fault(2);
            }
            at++;
            int from = at;
            List<Boolean> tested = new ArrayList<>();
            tested.add(false);
            boolean part = true;
            boolean notMay = true;
            int nots = 0;
            while (part || !here().text.equals(";") || tested.size() > 1) {
                Token token = here();
                if (part && tested.size() > 6 && (token.kind == 'n' || token.kind == 'w' || token.text.equals("("))) {
                    throw fault(2);
                }
                if (part && notMay && token.text.equals("not")) {
                    if (++nots == 7) {
                        throw fault(2);
                    }
                } else if (part) {
                    nots = 0;
                    part = beginsParenthesis(token);
                    notMay = part;
                    if (part) {
                        tested.add(false);
                    }
                } else {
                    part = !token.text.equals(")");
                    notMay = joins(token, tested);
                }
                at++;
            }
            return new ArrayList<>(tokens.subList(from, at));
        }

        private boolean beginsParenthesis(Token token) {
            if (token.kind == 'n' && token.text.length() > 4) {
                throw fault(2);
            }
            if (token.kind == 'w' && !VALUE_WORDS.contains(" " + token.text + " ")) {
                throw fault(3);
            }
            if (token.kind != 'n' && token.kind != 'w' && !token.text.equals("(")) {
                throw fault(1);
            }
            return token.text.equals("(");
        }

        private boolean joins(Token token, List<Boolean> tested) {
            int top = tested.size() - 1;
            switch (token.text) {
                case "and":
                case "or":
                    tested.set(top, false);
                    return true;
                case "+":
                case "-":
                case "*":
                case "/":
                    return false;
                case "<":
                case "=":
                    if (tested.get(top)) {
                        throw fault(1);
                    }
                    tested.set(top, true);
                    return false;
                case ")":
                    if (top == 0) {
                        throw fault(1);
                    }
                    tested.remove(top);
                    return false;
                default:
                    throw fault(1);
            }
        }
    }

    /** Values an EXPR that has no FAULT by splitting its row at the loosest sign, the last of it first. */
    private static int value(List<Token> row, Map<String, Integer> values) {
        String[][] levels = {{"or"}, {"and"}, {"not"}, {"<", "="}, {"+", "-"}, {"*", "/"}};
        for (String[] level : levels) {
            if (level[0].equals("not")) {
                if (row.get(0).text.equals("not")) {
                    return value(row.subList(1, row.size()), values) == 0 ? 1 : 0;
                }
                continue;
            }
            int split = lastOutside(row, level);
            if (split >= 0) {
                int a = value(row.subList(0, split), values);
                int b = value(row.subList(split + 1, row.size()), values);
                return join(row.get(split).text, a, b);
            }
        }
        if (row.size() > 1) {
            return value(row.subList(1, row.size() - 1), values);
        }
        String text = row.get(0).text;
        return row.get(0).kind == 'n' ? Integer.parseInt(text) : values.get(text);
    }

    private static int lastOutside(List<Token> row, String[] signs) {
        int depth = 0;
        for (int i = row.size() - 1; i >= 0; i--) {
            String text = row.get(i).text;
            depth += text.equals(")") ? 1 : text.equals("(") ? -1 : 0;
            for (String sign : signs) {
                if (depth == 0 && text.equals(sign)) {
                    return i;
                }
            }
        }
        return -1;
    }

    private static int join(String sign, int a, int b) {
        boolean yes;
        switch (sign) {
            case "+":
                return a + b;
            case "-":
                return a - b;
            case "*":
                return a * b;
            case "/":
                return b == 0 ? 0 : (int) ((long) a / b);
            case "or":
                yes = a != 0 || b != 0;
                break;
            case "and":
                yes = a != 0 && b != 0;
                break;
            case "<":
                yes = a < b;
                break;
            default:
                yes = a == b;
                break;
        }
        return yes ? 1 : 0;
    }

    private static Map<String, Integer> values(int... seven) {
        Map<String, Integer> values = new HashMap<>();
        String[] words = VALUE_WORDS.trim().split(" ");
        for (int i = 0; i < 7; i++) {
            values.put(words[i], seven[i]);
        }
        return values;
    }

    private boolean count(int house, int person, int grief, int hired, int hour, int before) {
        for (List<Token> rule : city.rules) {
            if (value(rule, values(house, person, grief, hired, hour / 24, hour % 24, before)) == 0) {
                return false;
            }
        }
        return true;
    }

    private void need(boolean there) {
        if (!there) {
            throw new NoSuchElementException();
        }
    }

    private void needPerson(int person) {
        need(person >= 0 && person < city.homes.size());
    }

    private void needHouse(int house) {
        need(house >= 0 && house < city.houses);
    }

    private void needHour(int hour) {
        need(hour >= 0 && hour <= 2399);
    }

    int fault() {
        return faultPlace;
    }

    private int nowHour() {
        return now.tears.isEmpty() ? 0 : now.tears.get(now.tears.size() - 1).hour;
    }

    int count(int what) {
        need(what >= 0 && what <= 12);
        int[] all = {city.houses, city.homes.size(), city.rules.size(), city.asks.size(), now.tears.size(),
            now.letters.size(), now.register.size(), tape.length(), nowHour()};
        return what < 9 ? all[what] : now.status[what - 9];
    }

    int person(int person, int what) {
        needPerson(person);
        need(what >= 0 && what <= 2);
        return what == 0 ? now.homes.get(person) : what == 1 ? city.chances.get(person)
                : city.hired.get(person) ? 1 : 0;
    }

    int walk(int house, int other) {
        needHouse(house);
        needHouse(other);
        return house == other ? 0 : city.walks.getOrDefault(house + "-" + other, 10);
    }

    void move(int person, int house) {
        needPerson(person);
        needHouse(house);
        now.homes.set(person, house);
    }

    private int ahead(int house, int day) {
        return (int) now.tears.stream().filter(t -> t.house == house && t.hour / 24 == day).count();
    }

    int weep(int person, int hour, int grief) {
        needPerson(person);
        if (now.tears.size() == 200 || hour < nowHour() || hour > 2399 || grief < 0 || grief > 9) {
            now.status[1]++;
            return -1;
        }
        int house = now.homes.get(person);
        int before = ahead(house, hour / 24);
        boolean counts = count(house, person, grief, city.hired.get(person) ? 1 : 0, hour, before);
        now.tears.add(new Tears(person, house, hour, grief, before, counts));
        return now.tears.size();
    }

    int tears(int tears, int what) {
        need(tears >= 0 && tears < now.tears.size());
        need(what >= 0 && what <= 5);
        Tears t = now.tears.get(tears);
        return new int[] {t.person, t.house, t.hour, t.grief, t.before, t.counts ? 1 : 0}[what];
    }

    private Tears caller(int house, int hour) {
        for (int i = now.tears.size() - 1; i >= 0; i--) {
            Tears t = now.tears.get(i);
            if (t.counts && t.house == house && t.hour <= hour) {
                return t;
            }
        }
        return null;
    }

    private int nameOf(int house, int hour) {
        Tears caller = caller(house, hour);
        return caller == null ? -1 : caller.person;
    }

    private List<Integer> housesOf(int name, int hour) {
        List<Integer> found = new ArrayList<>();
        for (int house = 0; house < city.houses; house++) {
            if (nameOf(house, hour) == name) {
                found.add(house);
            }
        }
        return found;
    }

    int name(int house, int hour) {
        needHouse(house);
        needHour(hour);
        return nameOf(house, hour);
    }

    int houses(int person, int hour) {
        needPerson(person);
        needHour(hour);
        return housesOf(person, hour).stream().mapToInt(house -> 1 << house).sum();
    }

    int letter(int person, int hour) {
        needPerson(person);
        needHour(hour);
        if (now.letters.size() == 40) {
            now.status[2]++;
            return -1;
        }
        now.letters.add(new Letter(person, hour));
        return now.letters.size() - 1;
    }

    private Came came(Letter letter) {
        int dawns = 0;
        int splits = 0;
        for (int hour = letter.hour + 1; dawns < 30; hour++) {
            if (hour % 24 != 6) {
                continue;
            }
            dawns++;
            List<Integer> found = housesOf(letter.name, hour);
            if (found.size() == 1) {
                return new Came(found.get(0), hour / 24);
            }
            if (found.size() > 1 && ++splits == 3) {
                return new Came(found.get(0), hour / 24);
            }
        }
        return new Came(-1, -1);
    }

    int post(int letter, int what) {
        need(letter >= 0 && letter < now.letters.size());
        need(what >= 0 && what <= 5);
        Letter it = now.letters.get(letter);
        List<Integer> then = housesOf(it.name, it.hour);
        int means = then.isEmpty() ? -1 : then.size() > 1 ? -2 : then.get(0);
        Came came = came(it);
        int wandered = came.house >= 0 && (then.size() != 1 || means != came.house) ? 1 : 0;
        return new int[] {it.name, it.hour, means, came.house, came.day, wandered}[what];
    }

    int round(int day) {
        need(day >= 0 && day <= 130);
        List<Integer> left = new ArrayList<>();
        for (int house = 1; house < city.houses; house++) {
            int there = house;
            if (now.letters.stream().map(this::came).anyMatch(c -> c.day == day && c.house == there)) {
                left.add(house);
            }
        }
        row = new ArrayList<>();
        return left.isEmpty() ? 0 : shortest(left, new ArrayList<>(), 0, Integer.MAX_VALUE);
    }

    /** Tries all rows in their order; only a shorter one takes the place of one that was found. */
    private int shortest(List<Integer> left, List<Integer> gone, int sum, int best) {
        int from = gone.isEmpty() ? 0 : gone.get(gone.size() - 1);
        if (left.isEmpty()) {
            int whole = sum + walk(from, 0);
            if (whole < best) {
                row = new ArrayList<>(gone);
            }
            return Math.min(best, whole);
        }
        int found = best;
        for (Integer house : left) {
            List<Integer> rest = new ArrayList<>(left);
            rest.remove(house);
            gone.add(house);
            if (sum + walk(from, house) < found) {
                found = shortest(rest, gone, sum + walk(from, house), found);
            }
            gone.remove(gone.size() - 1);
        }
        return found;
    }

    int rounded(int i) {
        need(i >= 0 && i < row.size());
        return row.get(i);
    }

    boolean holds(int ask, int house) {
        need(ask >= 0 && ask < city.asks.size());
        needHouse(house);
        Tears t = caller(house, nowHour());
        Map<String, Integer> values = t == null ? values(house, 99, 0, 0, 0, 0, 0)
                : values(house, t.person, t.grief, city.hired.get(t.person) ? 1 : 0, t.hour / 24, t.hour % 24, t.before);
        return value(city.asks.get(ask), values) != 0;
    }

    int stranger(int houses, int what) {
        need(what == 0 || what == 1);
        if (houses < 0 || houses >>> city.houses != 0) {
            throw new IllegalArgumentException();
        }
        List<Integer> maybe = new ArrayList<>();
        for (int house = 0; house < city.houses; house++) {
            if ((houses >> house & 1) == 1) {
                maybe.add(house);
            }
        }
        int least = asksFor(maybe, 0);
        if (least > 6) {
            return -1;
        }
        if (what == 0) {
            return least;
        }
        for (int ask = 0; least > 0 && ask < city.asks.size(); ask++) {
            if (1 + worse(maybe, ask, 1 << ask) == least) {
                return ask;
            }
        }
        return -1;
    }

    private int asksFor(List<Integer> maybe, int asked) {
        int least = maybe.size() <= 1 ? 0 : 99;
        for (int ask = 0; ask < city.asks.size() && maybe.size() > 1; ask++) {
            if ((asked >> ask & 1) == 0) {
                least = Math.min(least, 1 + worse(maybe, ask, asked | 1 << ask));
            }
        }
        return least;
    }

    private int worse(List<Integer> maybe, int ask, int asked) {
        List<Integer> yes = new ArrayList<>();
        List<Integer> no = new ArrayList<>();
        for (int house : maybe) {
            (holds(ask, house) ? yes : no).add(house);
        }
        return Math.max(asksFor(yes, asked), asksFor(no, asked));
    }

    int write(int person) {
        needPerson(person);
        if (now.register.size() == 40) {
            now.status[3]++;
            return -1;
        }
        now.register.add(person);
        return now.register.size();
    }

    int clear() {
        int many = now.register.size();
        now.register.clear();
        return many;
    }

    int register(int day, int what) {
        need(day >= 0 && day <= 99);
        need(what >= 0 && what <= 2);
        List<Integer> ones = new ArrayList<>();
        for (Tears t : now.tears) {
            if (t.hour / 24 == day) {
                ones.add(t.person);
            }
        }
        return what == 2 ? ones.size() : nearest(ones)[what];
    }

    /** By both rows' ends: the least changes, and of those the most TRUE ones left out. */
    private int[] nearest(List<Integer> ones) {
        int many = now.register.size();
        int[][][] best = new int[ones.size() + 1][many + 1][2];
        for (int i = ones.size(); i >= 0; i--) {
            for (int j = many; j >= 0; j--) {
                int[] found = i == ones.size() && j == many ? new int[] {0, 0} : new int[] {9999, 0};
                if (i < ones.size()) {
                    found = better(found, best[i + 1][j], 1, 1);
                }
                if (j < many) {
                    found = better(found, best[i][j + 1], 1, 0);
                }
                if (i < ones.size() && j < many) {
                    boolean like = ones.get(i).equals(now.register.get(j));
                    found = better(found, best[i + 1][j + 1], like ? 0 : 1, 0);
                }
                best[i][j] = found;
            }
        }
        return best[0][0];
    }

    private static int[] better(int[] found, int[] rest, int changes, int out) {
        int[] other = {rest[0] + changes, rest[1] + out};
        boolean is = other[0] < found[0] || other[0] == found[0] && other[1] > found[1];
        return is ? other : found;
    }

    int will(int person, int house, int from, int to, int what) {
        needPerson(person);
        needHouse(house);
        needHour(from);
        needHour(to);
        need(what == 0 || what == 1);
        if (from > to) {
            throw new IllegalArgumentException();
        }
        int own = 0;
        int all = 0;
        for (int hour = from; hour <= to; hour++) {
            List<Integer> found = housesOf(person, hour);
            own += found.contains(house) ? 1 : 0;
            all += found.size();
        }
        return what == 0 ? own : all == 0 ? 0 : 1000 * own / all;
    }

    int last(int person) {
        needPerson(person);
        List<Long> numbers = new ArrayList<>(List.of(1000000L));
        for (int other = 0; other < city.homes.size(); other++) {
            if (other == person || !now.homes.get(other).equals(now.homes.get(person))) {
                continue;
            }
            long chance = city.chances.get(other);
            List<Long> become = new ArrayList<>();
            for (int i = 0; i <= numbers.size(); i++) {
                long itself = i < numbers.size() ? numbers.get(i) : 0;
                long below = i > 0 ? numbers.get(i - 1) : 0;
                become.add((itself * (1000 - chance) + below * chance) / 1000);
            }
            numbers = become;
        }
        long together = 0;
        for (int i = 0; i < numbers.size(); i++) {
            together += numbers.get(i) * city.chances.get(person) / 1000 / (i + 1);
        }
        return (int) together;
    }

    int nobody(int house) {
        needHouse(house);
        long nobody = 1000000;
        for (int person = 0; person < city.homes.size(); person++) {
            nobody = now.homes.get(person) == house ? nobody * (1000 - city.chances.get(person)) / 1000 : nobody;
        }
        return (int) nobody;
    }

    int behind(int house, int person, int days) {
        needHouse(house);
        if (person != -1) {
            needPerson(person);
        }
        if (days < 0 || days > 100) {
            throw new IllegalArgumentException();
        }
        long chance = nameOf(house, nowHour()) == person ? 1000000 : 0;
        boolean lives = person != -1 && now.homes.get(person) == house;
        for (int day = 0; day < days; day++) {
            chance = chance * nobody(house) / 1000000 + (lives ? last(person) : 0);
        }
        return (int) chance;
    }

    int dry(int days) {
        if (days < 1 || days > 99) {
            throw new IllegalArgumentException();
        }
        int bits = 0;
        for (int house = 0; house < city.houses; house++) {
            Tears caller = caller(house, nowHour());
            bits |= caller == null || caller.hour <= nowHour() - 24 * days ? 1 << house : 0;
        }
        return bits;
    }

    int mourner(int house) {
        needHouse(house);
        int without = single();
        int before = ahead(house, nowHour() / 24);
        boolean counts = count(house, 99, 0, 1, nowHour(), before);
        now.tears.add(new Tears(99, house, nowHour(), 0, before, counts));
        int with = single();
        now.tears.remove(now.tears.size() - 1);
        return with - without;
    }

    private int single() {
        int many = 0;
        for (int person = 0; person < city.homes.size(); person++) {
            many += housesOf(person, nowHour()).size() == 1 ? 1 : 0;
        }
        return many;
    }

    void image() {
        image = now.copy();
    }

    boolean restore() {
        if (image == null) {
            return false;
        }
        now = image.copy();
        return true;
    }
}
