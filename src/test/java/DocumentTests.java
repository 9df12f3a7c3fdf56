import java.io.IOException;
import java.lang.reflect.Constructor;
import java.lang.reflect.Field;
import java.lang.reflect.Method;
import java.lang.reflect.Modifier;
import java.nio.file.DirectoryStream;
import java.nio.file.Files;
import java.nio.file.Path;
import java.util.ArrayList;
import java.util.List;
import java.util.regex.Matcher;
import java.util.regex.Pattern;

/** The document from its first line to its last: the face, the terms' sentences, and that each is quoted by a test. */
public final class DocumentTests {
    private static final Path DOCUMENT = Path.of("../shared/DOC.md");
    private static final Path TESTS = Path.of("src/test/java");
    private static final Pattern PROMISE = Pattern.compile("promise\\(\\d+,\\s*((?:\"[^\"]*\"[\\s+]*)+)\\)");
    private static final Pattern TEXT = Pattern.compile("\"([^\"]*)\"");

    public static void main(String[] args) throws IOException {
        face();
        housesAndPeople();
        chanceToComeOut();
        asksHoldOrDont();
        hourIsANumber();
        tokens();
        signsOfTheGrammar();
        clauses();
        hiredIsAMourner();
        exprsBind();
        valuesOfTears();
        valuesOfAHouse();
        tooMuch();
        notAsTold();
        fifthRuleSeventhAsk();
        tearsByTheirHours();
        noName();
        peopleMove();
        nowIsTheLatest();
        splitIsOfTwoOrMore();
        lettersAreNumbered();
        justOneHouse();
        roundOfADay();
        strangerByBits();
        registerAsWritten();
        willOfHours();
        wills();
        inAnyOrderAlike();
        behindDays();
        mournersWorth();
        statusOfEach();
        whats();
        none();
        everySentenceIsQuoted();
        Check.finish("DocumentTests");
    }

    /** The face as the document writes it, beside the face as it is: members, their order aside, and what they throw. */
    private static void face() throws IOException {
        List<String> due = new ArrayList<>();
        Matcher lines = Pattern.compile("(?m)^    (public .*);$").matcher(Files.readString(DOCUMENT));
        while (lines.find()) {
            due.add(lines.group(1).replaceAll("(\\w+) \\w+(?=[^()]*\\))", "$1"));
        }
        List<String> is = new ArrayList<>();
        for (Field field : TearsPost.class.getDeclaredFields()) {
            if (!Modifier.isPrivate(field.getModifiers())) {
                is.add(Modifier.toString(field.getModifiers()) + " " + field.getType() + " " + field.getName()
                        + " = " + TearsPost.NONE);
            }
        }
        for (Constructor<?> one : TearsPost.class.getDeclaredConstructors()) {
            is.add(member(one.getModifiers(), "", one.getName(), one.getParameterTypes(), one.getExceptionTypes()));
        }
        for (Method one : TearsPost.class.getDeclaredMethods()) {
            if (!Modifier.isPrivate(one.getModifiers())) {
                is.add(member(one.getModifiers(), one.getReturnType() + " ", one.getName(), one.getParameterTypes(),
                        one.getExceptionTypes()));
            }
        }
        Check.same("members of the document's face", 30, due.size());
        for (String one : due) {
            Check.same("whether there is '" + one + "'", 1, is.contains(one) ? 1 : 0);
        }
        for (String one : is) {
            Check.same("whether the document has '" + one + "'", 1, due.contains(one) ? 1 : 0);
        }
        Check.same("members of the face", due.size(), is.size());
    }

    private static String member(int modifiers, String answer, String name, Class<?>[] takes, Class<?>[] throwing) {
        return Modifier.toString(modifiers) + " " + answer + name + "(" + names(takes) + ")"
                + (throwing.length == 0 ? "" : " throws " + names(throwing));
    }

    private static String names(Class<?>[] types) {
        List<String> names = new ArrayList<>();
        for (Class<?> type : types) {
            names.add(type.getSimpleName());
        }
        return String.join(", ", names);
    }

    private static void housesAndPeople() {
        Check.promise(3, "A CITY has HOUSES 0, 1 .. (at most 10), PEOPLE 0, 1 .. (at most 16), each in a HOUSE,");
        StringBuilder text = new StringBuilder("houses 10;");
        for (int person = 0; person < 16; person++) {
            text.append("person ").append(person * 7 % 10).append(';');
        }
        TearsPost post = Check.city(text.toString());
        Check.same("HOUSES", 10, post.count(0));
        Check.same("PEOPLE", 16, post.count(1));
        for (int person = 0; person < 16; person++) {
            Check.same("the HOUSE of " + person, person * 7 % 10, post.person(person, 0));
        }
        Check.noSuch("the 17th PERSON", () -> post.person(16, 0));
        Check.noSuch("the 11th HOUSE", () -> post.name(10, 0));
        Check.fault("houses 11;", 2, 7);
        Check.fault(text + "person 0;", 2, text.length());
    }

    private static void chanceToComeOut() {
        Check.promise(24, "with a CHANCE (0 to 1000) to come out in tears on a day;");
        int[] chances = {0, 1, 250, 999, 1000};
        for (int chance : chances) {
            TearsPost post = Check.city("person 0 chance " + chance + ";");
            Check.same("NOBODY by CHANCE " + chance, 1000 * (1000 - chance), post.nobody(0));
            Check.same("LAST by CHANCE " + chance, 1000 * chance, post.last(0));
        }
    }

    private static void asksHoldOrDont() {
        Check.promise(17, "each holds of a HOUSE, or doesn't.");
        TearsPost post = Check.city("houses 4;ask house;ask house/2;ask 0-house;ask 0;ask 9999;ask house=2;");
        int[] houses = {0b1110, 0b1100, 0b1110, 0, 0b1111, 0b0100};
        for (int ask = 0; ask < 6; ask++) {
            for (int house = 0; house < 4; house++) {
                Check.same("ask " + ask + " of " + house, houses[ask] >> house & 1, post.holds(ask, house) ? 1 : 0);
            }
        }
    }

    private static void hourIsANumber() {
        Check.promise(9, "An HOUR is a number: 24 by the day (0 to 99) and what it is of the day (0 to 23).");
        for (int hour : new int[] {0, 23, 24, 47, 48, 2375, 2376, 2399}) {
            TearsPost post = Check.city("person 0;rule day=" + hour / 24 + " and hour=" + hour % 24 + ";");
            Check.same("TEARS at " + hour, 1, post.weep(0, hour, 0));
            Check.same("whether they COUNT", 1, post.tears(0, 5));
        }
    }

    private static void tokens() {
        Check.promise(3, "TOKENS: words (a .. z, the longest row), NUMBERS (1 to 4 digits), signs ; ( ) + - * / < = ; "
                + "blanks (32, 10) between them count for nothing.");
        String[] all = {"houses", "0002", ";", "person", "1", "chance", "999", "hired", ";", "walk", "0", "1", "42",
            ";", "rule", "(", "1", "+", "2", "-", "3", ")", "*", "4", "/", "5", "<", "6", ";", "ask", "grief", "=",
            "9999", ";"};
        for (String between : new String[] {" ", "\n", "\n  \n"}) {
            tellsAll(String.join(between, all));
            tellsAll(between + String.join(between, all) + between);
        }
        tellsAll(String.join(" ", all).replaceAll(" (?=\\W)|(?<=\\W) ", ""));
    }

    private static void tellsAll(String text) {
        TearsPost post = Check.city(text);
        Check.same("HOUSES", 2, post.count(0));
        Check.same("CHANCE", 999, post.person(0, 1));
        Check.same("a WALK", 42, post.walk(1, 0));
        Check.same("RULES", 1, post.count(2));
        Check.same("ASKS", 1, post.count(3));
    }

    private static void signsOfTheGrammar() {
        Check.promise(3, "In quotes is what stands there, [ ] perhaps, * any number of times, | one of some.");
        Check.fine("person 0;person 0 chance 1;person 0 hired;person 0 chance 1 hired;");
        Check.fault("person 0 hired chance 1;", 1, 15);
        Check.fault("person 0 chance 1 chance 1;", 1, 18);
        Check.fault("person 0 hired hired;", 1, 15);
        Check.fault("rule ask 1;", 3, 5);
        Check.fault("rule;", 1, 4);
        Check.fault("'houses' 1;", 1, 0);
        Check.fault("person 0 [hired];", 1, 9);
        Check.fault("ask 1 | 2;", 1, 6);
    }

    private static void clauses() {
        Check.promise(3, "CLAUSE: ('houses' NUMBER | 'person' HOUSE ['chance' NUMBER] ['hired'] | "
                + "'walk' HOUSE HOUSE NUMBER | 'rule' EXPR | 'ask' EXPR) ';'.");
        String[] all = {"houses 2 ;", "person 1 chance 5 hired ;", "walk 0 1 3 ;", "rule 1 ;", "ask 1 ;"};
        for (String clause : all) {
            String ahead = clause.equals(all[0]) ? "" : "houses 2;";
            Check.fine(ahead + clause);
            for (int cut = clause.indexOf(' '); cut > 0; cut = clause.indexOf(' ', cut + 1)) {
                Check.fault(ahead + clause.substring(0, cut), 1, ahead.length() + cut);
                Check.fault(ahead + clause.substring(0, cut) + "!", 1, ahead.length() + cut);
            }
            Check.fault(ahead + clause + ";", 1, ahead.length() + clause.length());
        }
    }

    private static void hiredIsAMourner() {
        Check.promise(6, "a 'hired' one is a mourner.");
        TearsPost post = Check.city("houses 2;person 0;person 1 hired;rule 1;ask hired;");
        Check.same("one who is not", 0, post.person(0, 2));
        Check.same("one who is", 1, post.person(1, 2));
        post.weep(0, 1, 0);
        post.weep(1, 1, 0);
        Check.same("'hired' of a HOUSE called by one who is not", 0, post.holds(0, 0) ? 1 : 0);
        Check.same("'hired' of a HOUSE called by one who is", 1, post.holds(0, 1) ? 1 : 0);
    }

    private static void exprsBind() {
        Check.promise(3, "AND: NOT ('and' NOT)*. NOT: 'not' NOT | SUM [('<' | '=') SUM]. "
                + "SUM: PRODUCT (('+' | '-') PRODUCT)*. PRODUCT: PART (('*' | '/') PART)*.");
        String[] holding = {"1 or 0 and 0", "0 and 0 or 1", "not 1 or 1", "not 0 and 1", "not 1 = 2", "not 2 < 1",
            "2 < 1 + 2", "1 + 2 * 3 = 7", "2 * 3 + 1 = 7", "10 - 4 / 2 = 8", "8 - 3 - 2 = 3", "16 / 4 / 2 = 2",
            "16 / 4 * 2 = 8", "2 * 9 / 6 = 3", "(1 = 2) = 0", "not not 5", "1 and 2 and 3", "0 or 0 or 4",
            "(not 0) + (not 0) = 2", "1 < 2 and 2 < 3", "0 = 1 or 1 = 1"};
        String[] failing = {"not 0 and 0", "not 1 and 1", "1 + 1 < 2", "not not 5 = 1", "1 and 0 or 0", "not 1 + 1",
            "not (1 or 0) and 0", "5 - 5", "0 * 7 + 0", "1 / 2", "not 1 < 2", "1 and 2 and 0", "2 - 1 - 1"};
        for (String expr : holding) {
            Check.holds(expr, 1);
        }
        for (String expr : failing) {
            Check.holds(expr, 0);
        }
        Check.fault("ask 1 = 2 = 0;", 1, 10);
        Check.fault("ask 1 < 2 < 3;", 1, 10);
        Check.fault("ask 1 + not 1;", 3, 8);
        Check.fault("ask - 1;", 1, 4);
    }

    private static void valuesOfTears() {
        Check.promise(10, "VALUES of TEARS: 'house', 'person', 'grief', 'hired' (1 of a mourner), 'day', "
                + "'hour' (of the day),");
        String city = "houses 3;person 0;person 2 hired;rule ";
        String[] right = {"house=2", "person=1", "grief=7", "hired=1", "day=3", "hour=5", "before=0"};
        String[] wrong = {"house=1", "person=0", "grief=6", "hired=0", "day=2", "hour=4", "before=1"};
        for (int i = 0; i < right.length; i++) {
            for (int count = 0; count < 2; count++) {
                TearsPost post = Check.city(city + (count == 1 ? right[i] : wrong[i]) + ";");
                post.weep(1, 3 * 24 + 5, 7);
                Check.same("whether TEARS COUNT by " + (count == 1 ? right[i] : wrong[i]), count, post.tears(0, 5));
            }
        }
    }

    private static void valuesOfAHouse() {
        Check.promise(17, "VALUES of a HOUSE (in an 'ask'): 'house',");
        TearsPost post = Check.city("houses 10;ask house=9;ask house<9;");
        for (int house = 0; house < 10; house++) {
            Check.same("house=9 of " + house, house == 9 ? 1 : 0, post.holds(0, house) ? 1 : 0);
            Check.same("house<9 of " + house, house == 9 ? 0 : 1, post.holds(1, house) ? 1 : 0);
        }
    }

    private static void tooMuch() {
        Check.promise(3, "2 one that can, but is too much:");
        Check.fault("rule 10000;", 2, 5);
        Check.fault("10000;", 1, 0);
        Check.fault("person 0 10000;", 1, 9);
        Check.fault("rule 1 10000;", 1, 7);
        Check.fault("not not not not not not not 1;", 1, 0);
    }

    private static void notAsTold() {
        Check.promise(3, "or (not in an EXPR) not as told");
        Check.fault("houses 0;", 2, 7);
        Check.fault("person 0 chance 1001;", 2, 16);
        Check.fault("houses 2;walk 0 1 0;", 2, 18);
        Check.fault("houses 2;walk 0 1 100;", 2, 18);
        Check.fine("rule 0 + 1001 + 9999;ask 100;");
    }

    private static void fifthRuleSeventhAsk() {
        Check.promise(3, "the 5th RULE, the 7th ASK");
        Check.fine("rule 1;".repeat(4) + "ask 1;".repeat(6));
        Check.fault("rule 1;".repeat(5), 2, 28);
        Check.fault("ask 1;".repeat(7), 2, 36);
        Check.fault("rule 1;".repeat(4) + "rule x;", 2, 28);
        Check.fault("ask 1;".repeat(6) + "ask", 2, 36);
    }

    private static void tearsByTheirHours() {
        Check.promise(9, "TEARS 0, 1 .. (at most 200), by their HOURS: of a PERSON (out of the HOUSE where he lives "
                + "then), of a GRIEF (0 to 9).");
        TearsPost post = Check.city("houses 3;person 1;person 2;");
        Check.same("TEARS 0", 1, post.weep(1, 5, 9));
        Check.same("TEARS below NOW", -1, post.weep(0, 4, 0));
        Check.same("TEARS 1", 2, post.weep(0, 5, 0));
        int[][] due = {{1, 2, 5, 9, 0, 1}, {0, 1, 5, 0, 0, 1}};
        for (int what = 0; what < 12; what++) {
            Check.same("TEARS " + what / 6 + ", what " + what % 6, due[what / 6][what % 6],
                    post.tears(what / 6, what % 6));
        }
        for (int told = 3; told <= 200; told++) {
            Check.same("how many there are", told, post.weep(0, 6, 1));
        }
        Check.same("TEARS 200", -1, post.weep(0, 6, 1));
    }

    private static void noName() {
        Check.promise(11, "THE NAME of a HOUSE at an HOUR: the PERSON of the last TEARS that COUNT, out of it, of that HOUR "
                + "or ahead (of like HOURS the later told); none, if there are none such.");
        TearsPost post = Check.city("houses 2;person 0;person 1;rule grief < 5;");
        post.weep(0, 10, 5);
        post.weep(0, 20, 4);
        post.weep(1, 30, 9);
        Check.same("behind TEARS that don't COUNT", -1, post.name(0, 19));
        Check.same("from those that COUNT on", 0, post.name(0, 20));
        Check.same("of none that COUNT", -1, post.name(1, 2399));
        Check.same("HOUSES of the NAME 1", 0, post.houses(1, 2399));
    }

    private static void peopleMove() {
        Check.promise(8, "A PERSON may MOVE: TEARS told from then on are out of the new HOUSE.");
        TearsPost post = Check.city("houses 3;person 1;");
        post.weep(0, 5, 0);
        post.move(0, 2);
        post.weep(0, 5, 0);
        post.move(0, 2);
        post.weep(0, 5, 0);
        post.move(0, 0);
        post.weep(0, 5, 0);
        int[] houses = {1, 2, 2, 0};
        int[] before = {0, 0, 1, 0};
        for (int tears = 0; tears < 4; tears++) {
            Check.same("the HOUSE of TEARS " + tears, houses[tears], post.tears(tears, 1));
            Check.same("'before' of TEARS " + tears, before[tears], post.tears(tears, 4));
        }
    }

    private static void nowIsTheLatest() {
        Check.promise(5, "NOW is the HOUR of the latest TEARS (0 without).");
        TearsPost post = Check.city("person 0;rule hour = 6;");
        Check.same("NOW without TEARS", 0, post.count(8));
        post.weep(0, 6, 0);
        Check.same("NOW by TEARS that COUNT", 6, post.count(8));
        post.weep(0, 7, 0);
        Check.same("NOW by TEARS that don't", 7, post.count(8));
        post.weep(0, 5, 0);
        Check.same("NOW by TEARS that were refused", 7, post.count(8));
        Check.same("a text", 0, Check.tell(post, ""));
        Check.same("NOW of a CITY that is told anew", 0, post.count(8));
    }

    private static void splitIsOfTwoOrMore() {
        Check.promise(14, "SPLIT is a NAME at an HOUR that two HOUSES or more have.");
        TearsPost post = Check.city("houses 3;person 0;");
        int[] means = {-1, 0, -2, -2};
        for (int house = 0; house <= 3; house++) {
            int letter = post.letter(0, 100 * house);
            Check.same("a LETTER to a NAME of " + house, means[house], post.post(letter, 2));
            Check.same("its HOUSES", (1 << house) - 1, post.houses(0, 100 * house));
            if (house < 3) {
                post.move(0, house);
                post.weep(0, 100 * house + 100, 0);
            }
        }
        Check.same("the LETTER to one, as TEARS are known now", 0, post.post(1, 2));
    }

    private static void lettersAreNumbered() {
        Check.promise(13, "LETTERS 0, 1 .. (at most 40): to a NAME, written at an HOUR;");
        TearsPost post = Check.city("person 0;person 0;");
        for (int letter = 0; letter < 40; letter++) {
            Check.same("a LETTER's number", letter, post.letter(letter % 2, 2399 - letter));
            Check.same("its NAME", letter % 2, post.post(letter, 0));
            Check.same("its HOUR", 2399 - letter, post.post(letter, 1));
        }
        Check.same("the 41st", -1, post.letter(0, 0));
    }

    private static void justOneHouse() {
        Check.promise(14, "CARRIED: at each dawn (hour 6 of a day) behind that HOUR, up to thirty dawns, the list is made "
                + "of NAMES of all HOUSES at that HOUR: if just one HOUSE has the NAME, it goes there, and comes on that day;");
        TearsPost post = Check.city("houses 2;person 0;person 1;");
        post.weep(1, 5, 0);
        int letter = post.letter(1, 5);
        Check.same("the HOUSE", 1, post.post(letter, 3));
        Check.same("the day, by the dawn of the next HOUR", 0, post.post(letter, 4));
        letter = post.letter(1, 6);
        Check.same("the HOUSE", 1, post.post(letter, 3));
        Check.same("the day, by the next day's dawn", 1, post.post(letter, 4));
        letter = post.letter(0, 6);
        Check.same("a LETTER to a NAME that none has", -1, post.post(letter, 3));
        post.weep(0, 54, 0);
        Check.same("its HOUSE by TEARS of a dawn's HOUR", 0, post.post(letter, 3));
        Check.same("its day", 2, post.post(letter, 4));
    }

    private static void roundOfADay() {
        Check.promise(15, "A ROUND of a day: HOUSES (but 0) to which LETTERS come on that day, each once");
        Check.promise(15, "A ROUND of a day: the sum of WALKS (0 without such HOUSES)");
        TearsPost post = Check.city("houses 4;person 0;person 1;person 2;person 3;walk 0 2 1;walk 2 1 1;walk 1 0 1;");
        for (int person = 0; person < 4; person++) {
            post.weep(person, person == 3 ? 7 : 0, 0);
            post.letter(person, person == 3 ? 7 : 0);
            post.letter(person, person == 3 ? 7 : 0);
        }
        Check.same("the ROUND of day 0", 3, post.round(0));
        Check.same("its first HOUSE", 1, post.rounded(0));
        Check.same("its second HOUSE", 2, post.rounded(1));
        Check.noSuch("its third HOUSE", () -> post.rounded(2));
        Check.same("the ROUND of day 1", 20, post.round(1));
        Check.same("its HOUSE", 3, post.rounded(0));
        Check.same("the ROUND of day 2", 0, post.round(2));
        Check.noSuch("its HOUSE", () -> post.rounded(0));
    }

    private static void strangerByBits() {
        Check.promise(18, "A STRANGER: HOUSES that may be it (bits);");
        Check.promise(18, "each answered yes or no");
        Check.promise(18, "A STRANGER: how many ASKS (what 0; NONE), the first ASK (1; NONE: none, or 0 ASKS)");
        TearsPost post = Check.city("houses 4;ask house=3;ask house/2;ask house=1 or house=3;");
        int[] fewest = {0, 0, 0, 1, 0, 1, 1, 2, 0, 1, 1, 2, 1, 2, 2, 2};
        int[] first = {-1, -1, -1, 2, -1, 1, 1, 1, -1, 0, 0, 0, 0, 0, 0, 1};
        for (int bits = 0; bits < 16; bits++) {
            Check.same("ASKS of " + bits, fewest[bits], post.stranger(bits, 0));
            Check.same("the first ASK of " + bits, first[bits], post.stranger(bits, 1));
        }
    }

    private static void registerAsWritten() {
        Check.promise(19, "THE REGISTER: a row of PERSONS as the nun wrote it (at most 40).");
        Check.promise(21, "THE REGISTER beside a day: least changes (what 0), a GAP (1), TRUE ones (2)");
        TearsPost post = Check.city("person 0;person 0;person 0;");
        for (int person : new int[] {0, 1, 2, 0, 1}) {
            post.weep(person, 30, 0);
        }
        int[][] due = {{5, 5, 5}, {4, 4, 5}, {3, 3, 5}, {2, 2, 5}, {3, 2, 5}};
        int[] written = {1, 0, 1, 1};
        for (int many = 0; many <= 4; many++) {
            for (int what = 0; what < 3; what++) {
                Check.same("what " + what + " of " + many + " written", due[many][what], post.register(1, what));
            }
            if (many < 4) {
                Check.same("how many are written", many + 1, post.write(written[many]));
            }
        }
    }

    private static void willOfHours() {
        Check.promise(22, "A WILL names a NAME, between two HOURS (from, to; at most 2399):");
        TearsPost post = Check.city("houses 2;person 0;person 1;");
        post.weep(0, 100, 0);
        post.weep(1, 200, 0);
        post.move(0, 1);
        post.weep(0, 300, 0);
        Check.same("HOUSE 0 to the last HOUR", 2300, post.will(0, 0, 0, 2399, 0));
        Check.same("HOUSE 1 to the last HOUR", 2100, post.will(0, 1, 0, 2399, 0));
        Check.same("the NAME 1 of HOUSE 1", 100, post.will(1, 1, 0, 2399, 0));
        Check.same("one HOUR", 1, post.will(0, 1, 2399, 2399, 0));
        Check.noSuch("an HOUR too far", () -> post.will(0, 1, 2399, 2400, 0));
        Check.noSuch("an HOUR below 0", () -> post.will(0, 1, -1, 2399, 0));
    }

    private static void wills() {
        Check.promise(22, "A WILL: at how many HOURS a HOUSE (what 0), its ODDS (1; 0 of none).");
        TearsPost post = Check.city("houses 3;person 0;");
        Check.same("ODDS of none", 0, post.will(0, 0, 0, 2399, 1));
        post.weep(0, 10, 0);
        post.move(0, 1);
        post.weep(0, 11, 0);
        Check.same("HOURS of HOUSE 0", 2, post.will(0, 0, 10, 11, 0));
        Check.same("HOURS of HOUSE 1", 1, post.will(0, 1, 10, 11, 0));
        Check.same("HOURS of HOUSE 2", 0, post.will(0, 2, 10, 11, 0));
        Check.same("ODDS of HOUSE 0", 666, post.will(0, 0, 10, 11, 1));
        Check.same("ODDS of HOUSE 1", 333, post.will(0, 1, 10, 11, 1));
        Check.same("ODDS of HOUSE 2", 0, post.will(0, 2, 10, 11, 1));
    }

    private static void inAnyOrderAlike() {
        Check.promise(23, "ODDS of NAMES: on a day each PERSON of a HOUSE comes out in tears once by his CHANCE, "
                + "in any order alike (they COUNT).");
        TearsPost post = Check.city("person 0 chance 1000;person 0 chance 1000 hired;person 0 chance 1000;rule 0;");
        for (int person = 0; person < 3; person++) {
            Check.same("LAST of " + person + " of three who surely come out", 333333, post.last(person));
            Check.same("BEHIND a day", 333333, post.behind(0, person, 1));
        }
        Check.same("the NAME of none BEHIND a day", 0, post.behind(0, -1, 1));
        post.weep(0, 0, 0);
        Check.same("TEARS that don't COUNT give no NAME", 1000000, post.behind(0, -1, 0));
    }

    private static void behindDays() {
        Check.promise(25, "BEHIND n days (0 to 100):");
        TearsPost post = Check.city("houses 2;person 0 chance 500;person 1 chance 0;");
        int none = 1000000;
        int name = 0;
        for (int days = 0; days <= 100; days++) {
            Check.same("no NAME BEHIND " + days, none, post.behind(0, -1, days));
            Check.same("the NAME 0 BEHIND " + days, name, post.behind(0, 0, days));
            none /= 2;
            name = name / 2 + 500000;
        }
        Check.same("a HOUSE out of which none comes", 1000000, post.behind(1, -1, 100));
        Check.illegal("101 days", () -> post.behind(0, 0, 101));
        Check.illegal("-1 days", () -> post.behind(0, 0, -1));
    }

    private static void mournersWorth() {
        Check.promise(27, "A MOURNER's worth at a HOUSE: were one who is hired");
        TearsPost post = Check.city("houses 3;person 0;person 2;rule 1;");
        Check.same("a MOURNER without NAMES", 0, post.mourner(0));
        post.weep(0, 5, 0);
        Check.same("at the one HOUSE of a NAME", -1, post.mourner(0));
        post.move(0, 1);
        post.weep(0, 5, 0);
        Check.same("at one HOUSE of two", 1, post.mourner(0));
        Check.same("at the other", 1, post.mourner(1));
        Check.same("at a HOUSE without NAME", 0, post.mourner(2));
        Check.same("a text", 0, Check.tell(post, "person 0;rule not hired;"));
        post.weep(0, 5, 0);
        Check.same("where RULES don't hold", 0, post.mourner(0));
    }

    private static void statusOfEach() {
        Check.promise(5, "STATUS: how many calls were refused: 0 of TEXTS with a FAULT, 1 of TEARS, 2 of LETTERS, "
                + "3 of the REGISTER (not counted where an exception tells it).");
        TearsPost post = Check.city("person 0;");
        for (int i = 0; i < 40; i++) {
            post.letter(0, 0);
            post.write(0);
        }
        Check.sameText("STATUS of none", "0 0 0 0", Check.status(post));
        Check.same("a text with a FAULT", 1, Check.tell(post, "x"));
        Check.sameText("STATUS", "1 0 0 0", Check.status(post));
        Check.same("TEARS", -1, post.weep(0, 2400, 0));
        Check.sameText("STATUS", "1 1 0 0", Check.status(post));
        Check.same("a LETTER", -1, post.letter(0, 0));
        Check.sameText("STATUS", "1 1 1 0", Check.status(post));
        Check.same("one more of THE REGISTER", -1, post.write(0));
        Check.sameText("STATUS", "1 1 1 1", Check.status(post));
        Check.illegal("city(1)", () -> post.city(1));
        Check.noSuch("weep(1, 2400, 0)", () -> post.weep(1, 2400, 0));
        Check.noSuch("letter(1, 0)", () -> post.letter(1, 0));
        Check.noSuch("letter(0, 2400)", () -> post.letter(0, 2400));
        Check.noSuch("write(1)", () -> post.write(1));
        Check.sameText("STATUS where exceptions tell it", "1 1 1 1", Check.status(post));
    }

    private static void whats() {
        Check.promise(6, "Of a PERSON: 0 his HOUSE now, 1 CHANCE, 2 whether he is hired (1).");
        TearsPost post = Check.city("houses 2;person 1 chance 7;person 0 hired;");
        Check.sameText("PERSONS", "1 7 0, 0 100 1", post.person(0, 0) + " " + post.person(0, 1) + " "
                + post.person(0, 2) + ", " + post.person(1, 0) + " " + post.person(1, 1) + " " + post.person(1, 2));
        Check.promise(10, "Of TEARS: 0 PERSON, 1 HOUSE, 2 HOUR, 3 GRIEF, 4 'before', 5 whether they COUNT (1).");
        post.weep(1, 3, 4);
        post.weep(1, 5, 6);
        StringBuilder tears = new StringBuilder();
        for (int what = 0; what < 6; what++) {
            tears.append(' ').append(post.tears(1, what));
        }
        Check.sameText("TEARS", " 1 0 5 6 1 1", tears.toString());
        Check.promise(14, "Of a LETTER: 0 NAME, 1 HOUR, 2 the HOUSE it MEANS (NONE: none; -2: SPLIT), 3 the HOUSE it "
                + "comes to (NONE: BACK), 4 on which day (NONE), 5 whether it WANDERED (1).");
        post.letter(1, 2);
        post.letter(0, 2);
        post.letter(1, 3);
        int[][] due = {{1, 2, -1, 0, 0, 1}, {0, 2, -1, -1, -1, 0}, {1, 3, 0, 0, 0, 0}};
        for (int letter = 0; letter < 3; letter++) {
            for (int what = 0; what < 6; what++) {
                Check.same("LETTER " + letter + ", what " + what, due[letter][what], post.post(letter, what));
            }
        }
    }

    private static void none() {
        Check.promise(1, "The constants: `NONE = -1`: There is none.");
        Check.same("NONE", -1, TearsPost.NONE);
        TearsPost post = new TearsPost();
        Check.same("a NAME that there isn't", TearsPost.NONE, post.name(0, 0));
        Check.same("a FAULT that there isn't", TearsPost.NONE, post.fault());
        Check.same("a first ASK that there isn't", TearsPost.NONE, post.stranger(1, 1));
    }

    /** The terms and promises, but for headings and for the lines of the face, which are looked at above. */
    private static void everySentenceIsQuoted() throws IOException {
        String document = Files.readString(DOCUMENT);
        boolean[] quoted = new boolean[document.length()];
        for (String words : quotes()) {
            for (int i = document.indexOf(words); i >= 0; i = document.indexOf(words, i + 1)) {
                java.util.Arrays.fill(quoted, i, i + words.length(), true);
            }
        }
        int begin = document.indexOf("## Terms");
        int end = document.indexOf("## Not promised");
        Matcher other = Pattern.compile("(?m)^## .*|^```.*|^==== \\d\\.|^`[^`]*`").matcher(document);
        while (other.find()) {
            java.util.Arrays.fill(quoted, other.start(), other.end(), true);
        }
        Check.same("whether there are terms and promises", 1, begin > 0 && end > begin ? 1 : 0);
        StringBuilder left = new StringBuilder();
        for (int i = begin; i < end; i++) {
            if (!quoted[i] && Character.isLetterOrDigit(document.charAt(i))) {
                left.append(i > 0 && quoted[i - 1] ? " .. " : "").append(document.charAt(i));
            }
        }
        Check.sameText("what no test quotes of the document", "", left.toString());
    }

    private static List<String> quotes() throws IOException {
        List<String> quotes = new ArrayList<>();
        try (DirectoryStream<Path> files = Files.newDirectoryStream(TESTS, "*Tests.java")) {
            for (Path file : files) {
                Matcher promises = PROMISE.matcher(Files.readString(file));
                while (promises.find()) {
                    StringBuilder words = new StringBuilder();
                    Matcher texts = TEXT.matcher(promises.group(1));
                    while (texts.find()) {
                        words.append(texts.group(1));
                    }
                    quotes.add(words.toString());
                }
            }
        }
        return quotes;
    }
}
