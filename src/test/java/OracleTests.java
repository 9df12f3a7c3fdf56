import java.util.ArrayList;
import java.util.Arrays;
import java.util.List;
import java.util.NoSuchElementException;
import java.util.Random;

/** Long runs of calls, the same every time, on the program and on the oracle side by side. */
public final class OracleTests {
    private static final int RUNS = 600;
    /** An object is used for at most 512 calls; a text takes 38 of them, at most. */
    private static final int CALLS = 470;
    private static final int[] FAR = {-1, Integer.MIN_VALUE, Integer.MAX_VALUE, -2, 1 << 30, -24, 65536};
    private static final String[] TOKENS = {"houses", "person", "walk", "rule", "ask", "chance", "hired", "not",
        "and", "or", "house", "grief", "day", "hour", "before", ";", "(", ")", "+", "-", "*", "/", "<", "=", "0",
        "1", "2", "9", "10", "12", "99", "100", "1000", "1001", "9999", "10000", "00000", "0001", "x", "!", "\t",
        "not not not", "(((", ")))", "not not not not not not not"};

    private final Random random;
    private final TearsPost post = new TearsPost();
    private final Oracle oracle = new Oracle();
    private final List<String> told = new ArrayList<>();
    private int houses = 1;
    private int people = 0;
    private int hour = 0;
    private int calls = 0;

    private OracleTests(int seed) {
        random = new Random(seed);
    }

    public static void main(String[] args) {
        for (int seed = 1; seed <= RUNS; seed++) {
            new OracleTests(seed).run();
        }
        for (int seed = 1; seed <= 30; seed++) {
            new OracleTests(seed).rounds();
            new OracleTests(seed).strangers();
        }
        Check.finish("OracleTests");
    }

    private int below(int bound) {
        return random.nextInt(bound);
    }

    private boolean seldom(int often) {
        return below(often) == 0;
    }

    private void run() {
        boolean wild = seldom(3);
        tellCity(wild);
        while (calls < CALLS) {
            if (seldom(wild ? 8 : 150)) {
                tellCity(wild || seldom(2));
            } else {
                int kind = below(40);
                if (kind == 29 && !seldom(6)) {
                    kind = 30;
                }
                same(kind, arguments(kind));
                for (int i = 0; kind == 13 && i < 3; i++) {
                    same(14, i);
                }
            }
        }
    }

    /** All walks are told, letters come to most houses on one day. */
    private void rounds() {
        StringBuilder text = new StringBuilder("houses 10;");
        for (int house = 1; house < 10; house++) {
            text.append("person ").append(house).append(';');
        }
        int longest = 2 + below(8);
        for (int pair = 0; pair < 100; pair++) {
            if (pair / 10 < pair % 10) {
                text.append("walk ").append(pair / 10).append(' ').append(pair % 10).append(' ');
                text.append(1 + below(longest)).append(';');
            }
        }
        tell(text.toString());
        for (int person = 0; person < 9; person++) {
            same(30, person, 1, 0);
            if (!seldom(4)) {
                same(8, person, 1);
            }
        }
        same(13, 0);
        for (int i = 0; i < 10; i++) {
            same(14, i);
        }
    }

    /** Each ask is told as a row of houses of which it holds. */
    private void strangers() {
        StringBuilder text = new StringBuilder("houses 10;");
        for (int ask = 0; ask < 6; ask++) {
            text.append("ask 0");
            for (int i = below(8); i > 0; i--) {
                text.append(" or house=").append(below(10));
            }
            text.append(';');
        }
        tell(text.toString());
        for (int i = 0; i < 60; i++) {
            int bits = below(1024) & (seldom(3) ? 1023 : below(1024));
            same(16, bits, 0);
            same(16, bits, 1);
        }
    }

    private void tellCity(boolean wild) {
        String text = randomText();
        for (int i = below(3); wild && i > 0; i--) {
            text = spoil(text);
        }
        tell(text.substring(0, Math.min(700, text.length())));
    }

    private void tell(String text) {
        int feeds = (text.length() + 19) / 20;
        StringBuilder padded = new StringBuilder(text);
        while (padded.length() % 20 != 0) {
            padded.append((char) (seldom(2) ? ' ' : below(256)));
        }
        for (int i = 0; i < feeds; i++) {
            int[] five = new int[5];
            for (int j = 0; j < 20; j++) {
                five[j / 4] = five[j / 4] << 8 | padded.charAt(20 * i + j);
            }
            same(-1, five);
        }
        same(-2, seldom(20) ? below(720) : text.length());
        same(-3);
        houses = oracle.count(0);
        people = oracle.count(1);
        hour = oracle.count(8);
    }

    private String spoil(String text) {
        int place = below(text.length() + 1);
        int cut = Math.min(text.length(), place + (seldom(2) ? 0 : below(4)));
        String put = seldom(5) ? String.valueOf((char) below(256)) : seldom(4) ? "" : TOKENS[below(TOKENS.length)];
        String between = seldom(3) ? "" : " ";
        return text.substring(0, place) + between + put + between + text.substring(cut);
    }

    private String randomText() {
        StringBuilder text = new StringBuilder();
        int many = seldom(10) ? 1 : 1 + below(10);
        if (many > 1 || seldom(2)) {
            text.append("houses ").append(many).append(';');
        }
        int clauses = below(seldom(5) ? 40 : 22);
        boolean crowd = seldom(3);
        boolean questions = seldom(3);
        for (int i = 0; i < clauses; i++) {
            switch (crowd ? below(3) : questions ? 1 + below(4) : below(6)) {
                case 0:
                case 1:
                    text.append("person ").append(seldom(3) ? below(many) : i % many);
                    text.append(seldom(2) ? " chance " + (seldom(4) ? below(2) * 1000 : below(1001)) : "");
                    text.append(seldom(4) ? " hired" : "");
                    break;
                case 2:
                    if (many < 2) {
                        continue;
                    }
                    int house = below(many);
                    text.append("walk ").append(house).append(' ').append((house + 1 + below(many - 1)) % many);
                    text.append(' ').append(1 + (seldom(2) ? below(99) : below(4)));
                    break;
                case 3:
                    text.append("ask ").append(question());
                    break;
                case 4:
                    text.append(seldom(2) ? "rule " + usual() : "ask " + question());
                    break;
                default:
                    text.append(seldom(3) ? "rule " + expr(3) : "ask " + expr(3));
                    break;
            }
            text.append(seldom(9) ? " ;\n" : ";");
        }
        return text.toString();
    }

    private String usual() {
        String[] usual = {"not hired", "hour < 22", "before < 3", "grief = 0 or not hired", "1", "day < 50 or grief",
            "person < 9", "(house + hour) / 3 * 3 < house + hour", "not (before = 1)", "hired or grief < 7"};
        return usual[below(usual.length)];
    }

    private String question() {
        String[] usual = {"house < " + below(10), "house / 2 * 2 < house", "house / 4 - house / 8 * 2", "house / 2 = 1", "house = " + below(10), "person < " + below(16), "hired",
            "house / 2 * 2 = house", "house / 4 * 4 = house", "grief < 5", "person = 99", "hour < 12", "before"};
        return usual[below(usual.length)];
    }

    private String expr(int depth) {
        if (depth == 0 || seldom(6)) {
            return TOKENS[seldom(2) ? 24 + below(5) : 8 + below(5) + 2].replaceAll("^(and|or)$", "person");
        }
        switch (below(5)) {
            case 0:
                return "(" + expr(depth - 1) + ")";
            case 1:
                return "not (" + expr(depth - 1) + ")";
            case 2:
                return expr(depth - 1) + (seldom(2) ? " and " : " or ") + expr(depth - 1);
            case 3:
                return "(" + expr(depth - 1) + ")" + "<=".charAt(below(2)) + "(" + expr(depth - 1) + ")";
            default:
                return "(" + expr(depth - 1) + ")" + "+-*/".charAt(below(4)) + "(" + expr(depth - 1) + ")";
        }
    }

    private int number(int bound) {
        if (seldom(60)) {
            return FAR[below(FAR.length)];
        }
        return seldom(60) ? bound : below(Math.max(1, bound));
    }

    private int[] arguments(int kind) {
        switch (kind) {
            case 0:
                return new int[] {number(13)};
            case 1:
                return new int[] {number(people), number(3)};
            case 2:
                return new int[] {number(houses), number(houses)};
            case 3:
            case 4:
                return new int[] {number(people), number(houses)};
            case 5:
                return new int[] {number(oracle.count(4)), number(6)};
            case 6:
                return new int[] {number(houses), number(2400)};
            case 7:
                return new int[] {number(people), near(2400)};
            case 8:
            case 9:
            case 10:
                return new int[] {number(people), seldom(4) ? near(2400) : Math.max(0, hour - below(5))};
            case 11:
            case 12:
                return new int[] {number(oracle.count(5)), number(6)};
            case 13:
                int letters = oracle.count(5);
                return new int[] {letters == 0 || seldom(6) ? number(131) : oracle.post(below(letters), 4)};
            case 14:
                return new int[] {number(10)};
            case 15:
                return new int[] {number(oracle.count(3)), number(houses)};
            case 16:
            case 17:
                return new int[] {seldom(4) ? (1 << houses) - 1 : number(1 << houses) & below(1024), number(2)};
            case 18:
            case 19:
                return new int[] {number(people)};
            case 20:
                return new int[0];
            case 21:
                return new int[] {seldom(4) ? number(100) : hour / 24, number(3)};
            case 22:
                return new int[] {number(people), number(houses), near(2400), seldom(3) ? 2399 : near(2400), number(2)};
            case 23:
                return new int[] {number(people)};
            case 24:
                return new int[] {number(houses)};
            case 25:
                return new int[] {number(houses), seldom(4) ? -1 : number(people), number(101)};
            case 26:
                return new int[] {seldom(2) ? 1 + below(4) : number(100)};
            case 27:
                return new int[] {number(houses)};
            case 28:
            case 29:
                return new int[0];
            default:
                int next = seldom(15) ? number(2400) : hour + (seldom(2) ? 0 : below(seldom(4) ? 60 : 9));
                return new int[] {number(people), next, number(10)};
        }
    }

    private int near(int bound) {
        return seldom(2) ? number(bound) : Math.min(2399, Math.max(0, hour - below(80)));
    }

    private void same(int kind, int... with) {
        told.add(kind + Arrays.toString(with));
        calls++;
        String due = answer(() -> oracleAnswer(kind, with));
        String got = answer(() -> programAnswer(kind, with));
        hour = oracle.count(8);
        if (!due.equals(got)) {
            System.out.println("a run: " + told);
            System.out.println("answered " + got + ", due is " + due);
        }
        Check.same("the last call of a run", due.hashCode(), got.hashCode());
    }

    private static String answer(Check.Call call) {
        try {
            return String.valueOf(call.answer());
        } catch (NoSuchElementException | IllegalArgumentException e) {
            return e.getClass().getSimpleName();
        }
    }

    private long programAnswer(int kind, int[] w) {
        switch (kind) {
            case -1: return post.feed(w[0], w[1], w[2], w[3], w[4]);
            case -2: return post.city(w[0]);
            case -3: return post.fault();
            case 0: return post.count(w[0]);
            case 1: return post.person(w[0], w[1]);
            case 2: return post.walk(w[0], w[1]);
            case 3:
            case 4: post.move(w[0], w[1]); return 0;
            case 5: return post.tears(w[0], w[1]);
            case 6: return post.name(w[0], w[1]);
            case 7: return post.houses(w[0], w[1]);
            case 8:
            case 9:
            case 10: return post.letter(w[0], w[1]);
            case 11:
            case 12: return post.post(w[0], w[1]);
            case 13: return post.round(w[0]);
            case 14: return post.rounded(w[0]);
            case 15: return post.holds(w[0], w[1]) ? 1 : 0;
            case 16:
            case 17: return post.stranger(w[0], w[1]);
            case 18:
            case 19: return post.write(w[0]);
            case 20: return post.clear();
            case 21: return post.register(w[0], w[1]);
            case 22: return post.will(w[0], w[1], w[2], w[3], w[4]);
            case 23: return post.last(w[0]);
            case 24: return post.nobody(w[0]);
            case 25: return post.behind(w[0], w[1], w[2]);
            case 26: return post.dry(w[0]);
            case 27: return post.mourner(w[0]);
            case 28: post.image(); return 0;
            case 29: return post.restore() ? 1 : 0;
            default: return post.weep(w[0], w[1], w[2]);
        }
    }

    private long oracleAnswer(int kind, int[] w) {
        switch (kind) {
            case -1: return oracle.feed(w);
            case -2: return oracle.city(w[0]);
            case -3: return oracle.fault();
            case 0: return oracle.count(w[0]);
            case 1: return oracle.person(w[0], w[1]);
            case 2: return oracle.walk(w[0], w[1]);
            case 3:
            case 4: oracle.move(w[0], w[1]); return 0;
            case 5: return oracle.tears(w[0], w[1]);
            case 6: return oracle.name(w[0], w[1]);
            case 7: return oracle.houses(w[0], w[1]);
            case 8:
            case 9:
            case 10: return oracle.letter(w[0], w[1]);
            case 11:
            case 12: return oracle.post(w[0], w[1]);
            case 13: return oracle.round(w[0]);
            case 14: return oracle.rounded(w[0]);
            case 15: return oracle.holds(w[0], w[1]) ? 1 : 0;
            case 16:
            case 17: return oracle.stranger(w[0], w[1]);
            case 18:
            case 19: return oracle.write(w[0]);
            case 20: return oracle.clear();
            case 21: return oracle.register(w[0], w[1]);
            case 22: return oracle.will(w[0], w[1], w[2], w[3], w[4]);
            case 23: return oracle.last(w[0]);
            case 24: return oracle.nobody(w[0]);
            case 25: return oracle.behind(w[0], w[1], w[2]);
            case 26: return oracle.dry(w[0]);
            case 27: return oracle.mourner(w[0]);
            case 28: oracle.image(); return 0;
            case 29: return oracle.restore() ? 1 : 0;
            default: return oracle.weep(w[0], w[1], w[2]);
        }
    }
}
