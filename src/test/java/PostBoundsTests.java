/** Promises 13 to 18 at their boundaries: LETTERS and their dawns, ROUNDS, ASKS, STRANGERS. */
public final class PostBoundsTests {
    private static final int NONE = -1;
    private static final int SPLIT = -2;

    public static void main(String[] args) {
        lettersAreAtMost40();
        letterLooksAtItsArgumentsFirst();
        postIsOfLettersThatThereAre();
        postTellsNameAndHour();
        meansTheHouseOfThatNameThen();
        meansNoneOrSplit();
        dawnsAreBehindTheHour();
        dawnsAreAtHourSix();
        dawnsAreThirty();
        lateLetters();
        splitDawnsAreThree();
        splitDawnsCountTogether();
        splitAtTheLastDawns();
        goesToTheLeastOfThem();
        wanderedOrNot();
        byTearsAsTheyAreKnownNow();
        roundTakesDays0To130();
        roundIsOfThatDay();
        roundIsButForHouse0();
        roundIsEachOnce();
        roundIsTheLeast();
        roundOfLikeOnesIsTheFirst();
        roundIsKept();
        roundedHasItsHouses();
        holdsTakesAsksAndHouses();
        holdsAsItIsNow();
        holdsOfAHouseWithoutAName();
        strangerIsOfHousesThatThereAre();
        strangerLooksAtWhatFirst();
        strangerOfOneOrNone();
        strangerThatCannotBeKnown();
        strangerWhateverIsAnswered();
        firstAskIsTheLeast();
        strangerBySixAsks();
        strangerAsItIsNow();
        Check.finish("PostBoundsTests");
    }

    private static void lettersAreAtMost40() {
        Check.promise(13, "A LETTER: its number. NONE (STATUS 2): there are 40.");
        TearsPost post = Check.city("person 0;person 0;");
        for (int number = 0; number < 40; number++) {
            Check.same("a LETTER's number", number, post.letter(number & 1, number));
            Check.same("how many there are", number + 1, post.count(5));
        }
        for (int refused = 1; refused <= 3; refused++) {
            Check.same("LETTER 41", -1, post.letter(1, 7));
            Check.same("how many there are", 40, post.count(5));
            Check.sameText("STATUS", "0 0 " + refused + " 0", Check.status(post));
        }
        Check.same("the NAME of the first", 0, post.post(0, 0));
        Check.same("the HOUR of the last", 39, post.post(39, 1));
        Check.noSuch("the LETTER that was refused", () -> post.post(40, 0));
    }

    private static void letterLooksAtItsArgumentsFirst() {
        Check.promise(13, "NoSuchElementException (ahead): no such PERSON, HOUR.");
        TearsPost post = Check.city("person 0;person 0;");
        Check.noSuchBeside("letter to a NAME", 0, 1, person -> post.letter(person, 0));
        Check.noSuchBeside("letter at an HOUR", 0, 2399, hour -> post.letter(0, hour));
        Check.noSuchAndStays("letter(2, 0)", post, () -> post.letter(2, 0));
        Check.noSuchAndStays("letter(0, 2400)", post, () -> post.letter(0, 2400));
        Check.same("LETTERS behind them", 4, post.letter(1, 2399));
        for (int more = 5; more < 40; more++) {
            post.letter(0, 0);
        }
        Check.noSuch("letter(2, 0) of 40", () -> post.letter(2, 0));
        Check.noSuch("letter(-1, 0) of 40", () -> post.letter(-1, 0));
        Check.noSuch("letter(0, 2400) of 40", () -> post.letter(0, 2400));
        Check.noSuch("letter(0, -1) of 40", () -> post.letter(0, -1));
        Check.same("STATUS 2 behind exceptions", 0, post.count(11));
        Check.same("LETTER 41", -1, post.letter(1, 2399));
        Check.same("STATUS 2", 1, post.count(11));
    }

    private static void postIsOfLettersThatThereAre() {
        Check.promise(14, "NoSuchElementException: no such LETTER, what.");
        TearsPost post = Check.city("person 0;");
        Check.noSuch("post(0, 0) of none", () -> post.post(0, 0));
        for (int written = 1; written <= 3; written++) {
            post.letter(0, 0);
            Check.noSuchBeside("post of a LETTER", 0, written - 1, letter -> post.post(letter, 0));
            Check.noSuchBeside("post of a LETTER, what", 0, 5, what -> post.post(0, what));
        }
        Check.noSuch("post(3, 6)", () -> post.post(3, 6));
    }

    private static void postTellsNameAndHour() {
        Check.promise(14, "0 NAME, 1 HOUR");
        TearsPost post = Check.city("person 0;".repeat(16));
        post.letter(15, 0);
        post.letter(0, 2399);
        Check.same("the NAME", 15, post.post(0, 0));
        Check.same("the HOUR", 0, post.post(0, 1));
        Check.same("the other's NAME", 0, post.post(1, 0));
        Check.same("the other's HOUR", 2399, post.post(1, 1));
    }

    /** What a LETTER means, where and when it comes, whether it wandered. */
    private static void due(String of, TearsPost post, int letter, int means, int house, int day, int wandered) {
        Check.same(of + ": what it MEANS", means, post.post(letter, 2));
        Check.same(of + ": the HOUSE", house, post.post(letter, 3));
        Check.same(of + ": the day", day, post.post(letter, 4));
        Check.same(of + ": whether it WANDERED", wandered, post.post(letter, 5));
    }

    private static void meansTheHouseOfThatNameThen() {
        Check.promise(14, "it MEANS the HOUSE of that NAME then (none, if there is none; SPLIT, if there are more)");
        TearsPost post = Check.city("houses 3;person 2;person 2;");
        post.weep(0, 50, 0);
        post.weep(1, 60, 0);
        int[] hours = {0, 49, 50, 51, 59, 60, 61, 2399};
        int[] means = {NONE, NONE, 2, 2, 2, NONE, NONE, NONE};
        for (int letter = 0; letter < hours.length; letter++) {
            post.letter(0, hours[letter]);
            Check.same("what one at " + hours[letter] + " MEANS", means[letter], post.post(letter, 2));
        }
        post.letter(1, 59);
        post.letter(1, 60);
        Check.same("what one to the later NAME MEANS", NONE, post.post(8, 2));
        Check.same("what one to the later NAME MEANS", 2, post.post(9, 2));
    }

    private static void meansNoneOrSplit() {
        Check.promise(14, "2 the HOUSE it MEANS (NONE: none; -2: SPLIT)");
        TearsPost post = Check.city("houses 10;person 0;person 1;");
        post.weep(0, 10, 0);
        post.move(0, 9);
        post.weep(0, 20, 0);
        post.move(0, 5);
        post.weep(0, 30, 0);
        int[] hours = {9, 10, 19, 20, 29, 30, 31};
        int[] means = {NONE, 0, 0, SPLIT, SPLIT, SPLIT, SPLIT};
        for (int letter = 0; letter < hours.length; letter++) {
            post.letter(0, hours[letter]);
            Check.same("what one at " + hours[letter] + " MEANS", means[letter], post.post(letter, 2));
        }
        post.letter(1, 31);
        Check.same("what one to no HOUSE's NAME MEANS", NONE, post.post(7, 2));
    }

    private static void dawnsAreBehindTheHour() {
        Check.promise(14, "at each dawn (hour 6 of a day) behind that HOUR, up to thirty dawns");
        TearsPost post = Check.city("houses 2;person 1;");
        post.weep(0, 0, 0);
        int[] hours = {0, 5, 6, 7, 23, 24, 29, 30, 31, 2376, 2381, 2382, 2399};
        int[] days = {0, 0, 1, 1, 1, 1, 1, 2, 2, 99, 99, 100, 100};
        for (int letter = 0; letter < hours.length; letter++) {
            post.letter(0, hours[letter]);
            due("one written at " + hours[letter], post, letter, 1, 1, days[letter], 0);
        }
    }

    private static void dawnsAreAtHourSix() {
        Check.promise(14, "the list is made of NAMES of all HOUSES at that HOUR");
        int[] hours = {5, 6, 7};
        int[] days = {0, 0, 1};
        for (int i = 0; i < 3; i++) {
            TearsPost post = Check.city("houses 2;person 1;person 1;");
            post.letter(0, 0);
            post.letter(1, 0);
            post.weep(0, hours[i], 0);
            due("a NAME from " + hours[i] + " on", post, 0, NONE, 1, days[i], 1);
            post.weep(1, hours[i] + 24, 0);
            due("a NAME until " + (hours[i] + 24), post, 0, NONE, 1, days[i], 1);
            due("a NAME from " + (hours[i] + 24) + " on", post, 1, NONE, 1, days[i] + 1, 1);
        }
        int[] until = {29, 30, 31};
        int[] houses = {NONE, NONE, 1};
        for (int i = 0; i < 3; i++) {
            TearsPost post = Check.city("houses 2;person 1;person 1;");
            post.letter(0, 0);
            post.weep(0, 7, 0);
            post.weep(1, until[i], 0);
            due("a NAME from 7 until " + until[i], post, 0, NONE, houses[i], houses[i], houses[i] == 1 ? 1 : 0);
        }
    }

    private static void dawnsAreThirty() {
        Check.promise(14, "Behind thirty dawns it comes BACK.");
        int[][] rows = {{0, 29 * 24 + 6, 29}, {0, 29 * 24 + 7, NONE}, {5, 29 * 24 + 6, 29}, {5, 29 * 24 + 7, NONE},
            {6, 29 * 24 + 7, 30}, {6, 30 * 24 + 6, 30}, {6, 30 * 24 + 7, NONE}, {1000, 71 * 24 + 6, 71},
            {1000, 71 * 24 + 7, NONE}};
        for (int[] row : rows) {
            TearsPost post = Check.city("houses 2;person 1;");
            post.letter(0, row[0]);
            post.weep(0, row[1], 0);
            int house = row[2] == NONE ? NONE : 1;
            due("one of " + row[0] + " to a NAME of " + row[1], post, 0, NONE, house, row[2], house == 1 ? 1 : 0);
        }
    }

    private static void lateLetters() {
        Check.promise(14, "3 the HOUSE it comes to (NONE: BACK), 4 on which day (NONE)");
        TearsPost post = Check.city("houses 3;person 1;person 1;");
        post.letter(0, 2399);
        post.letter(1, 2399);
        due("one to no NAME", post, 0, NONE, NONE, NONE, 0);
        post.weep(0, 2399, 0);
        due("one of the last HOUR", post, 0, 1, 1, 100, 0);
        post.move(0, 0);
        post.weep(0, 2399, 0);
        due("one that is SPLIT in the last HOUR", post, 0, SPLIT, 0, 102, 1);
        due("one to no NAME at the last HOUR", post, 1, NONE, NONE, NONE, 0);
    }

    /** One to a NAME that HOUSES 1 and 2 have from HOUR 2 on; another takes it from HOUSE 1 at an HOUR. */
    private static TearsPost splitUntil(int hour) {
        TearsPost post = Check.city("houses 3;person 1;person 1;");
        post.letter(0, 2);
        post.weep(0, 1, 0);
        post.move(0, 2);
        post.weep(0, 2, 0);
        post.weep(1, hour, 0);
        return post;
    }

    private static void splitDawnsAreThree() {
        Check.promise(14, "if more have, it waits at the first two such dawns and comes to the least of them at the third");
        int[] hours = {2, 6, 7, 30, 31, 54, 55, 2399};
        int[] houses = {2, 2, 2, 2, 2, 2, 1, 1};
        int[] days = {0, 0, 1, 1, 2, 2, 2, 2};
        for (int i = 0; i < hours.length; i++) {
            TearsPost post = splitUntil(hours[i]);
            int means = hours[i] == 2 ? 2 : SPLIT;
            due("SPLIT until " + hours[i], post, 0, means, houses[i], days[i], hours[i] == 2 ? 0 : 1);
        }
    }

    /** The NAME is SPLIT at dawn 0, had by none at dawns 1 and 2, SPLIT at dawn 3, by none at 4, SPLIT at 5. */
    private static void splitDawnsCountTogether() {
        Check.promise(14, "if none has, it waits");
        TearsPost post = Check.city("houses 3;person 1;person 1;person 2;");
        post.letter(0, 0);
        int[] splits = {1, 60, 110};
        for (int i = 0; i < 3; i++) {
            due("ahead of SPLIT dawn " + i, post, 0, NONE, NONE, NONE, 0);
            post.move(0, 1);
            post.weep(0, splits[i], 0);
            post.move(0, 2);
            post.weep(0, splits[i], 0);
            due("at the end of what is known", post, 0, NONE, 1, i == 0 ? 2 : i == 1 ? 4 : 5, 1);
            post.weep(1, splits[i] + 20, 0);
            post.weep(2, splits[i] + 20, 0);
        }
        due("at the third SPLIT dawn", post, 0, NONE, 1, 5, 1);
    }

    private static void splitAtTheLastDawns() {
        Check.promise(14, "up to thirty dawns");
        int[] hours = {26 * 24 + 7, 27 * 24 + 6, 27 * 24 + 7};
        int[] days = {29, 29, NONE};
        for (int i = 0; i < 3; i++) {
            TearsPost post = Check.city("houses 4;person 3;");
            post.letter(0, 5);
            post.weep(0, hours[i], 0);
            post.move(0, 2);
            post.weep(0, hours[i], 0);
            int house = days[i] == NONE ? NONE : 2;
            due("SPLIT from " + hours[i] + " on", post, 0, NONE, house, days[i], house == NONE ? 0 : 1);
        }
        TearsPost one = Check.city("houses 4;person 3;person 3;");
        one.letter(0, 5);
        one.weep(0, 28 * 24, 0);
        one.move(0, 2);
        one.weep(0, 28 * 24, 0);
        one.weep(1, 29 * 24 + 6, 0);
        due("SPLIT at the 29th dawn, one's at the 30th", one, 0, NONE, 2, 29, 1);
    }

    private static void goesToTheLeastOfThem() {
        Check.promise(14, "comes to the least of them at the third");
        int[][] rows = {{0, 9}, {9, 0}, {8, 9}, {9, 8}, {3, 1}};
        for (int[] row : rows) {
            TearsPost post = Check.city("houses 10;person " + row[0] + ";");
            post.weep(0, 0, 0);
            post.letter(0, 0);
            post.move(0, row[1]);
            post.weep(0, 1, 0);
            due("SPLIT behind its HOUR", post, 0, row[0], Math.min(row[0], row[1]), 2, row[0] < row[1] ? 0 : 1);
        }
    }

    private static void wanderedOrNot() {
        Check.promise(14, "It WANDERED, if it came to a HOUSE that it doesn't MEAN (also if it MEANS none, or is SPLIT).");
        TearsPost post = Check.city("houses 3;person 0;person 0;");
        post.weep(0, 10, 0);
        post.letter(0, 10);
        post.letter(0, 9);
        due("to the HOUSE that it MEANS", post, 0, 0, 0, 1, 0);
        due("to a HOUSE, though it MEANS none", post, 1, NONE, 0, 1, 1);
        post.weep(1, 29, 0);
        due("BACK, though it MEANS one", post, 0, 0, NONE, NONE, 0);
        due("BACK, and it MEANS none", post, 1, NONE, NONE, NONE, 0);
        post.move(0, 1);
        post.weep(0, 29, 0);
        due("to another HOUSE", post, 0, 0, 1, 1, 1);
        post.move(0, 2);
        post.weep(0, 30, 0);
        post.letter(0, 30);
        post.letter(0, 29);
        due("SPLIT", post, 2, SPLIT, 1, 4, 1);
        due("SPLIT behind its HOUR", post, 3, 1, 1, 3, 0);
        post.weep(1, 54, 0);
        due("SPLIT, though just one has it later", post, 2, SPLIT, 1, 4, 1);
        post.move(1, 1);
        post.weep(1, 54, 0);
        due("SPLIT, to the one that has it", post, 2, SPLIT, 2, 2, 1);
    }

    private static void byTearsAsTheyAreKnownNow() {
        Check.promise(14, "What is told of a LETTER is by TEARS as they are known now.");
        TearsPost post = Check.city("houses 2;person 1;person 1;");
        post.letter(0, 3);
        due("ahead of TEARS", post, 0, NONE, NONE, NONE, 0);
        post.image();
        post.weep(0, 3, 0);
        due("behind TEARS of its HOUR", post, 0, 1, 1, 0, 0);
        post.weep(1, 3, 0);
        due("behind another's", post, 0, NONE, NONE, NONE, 0);
        post.weep(0, 6, 0);
        due("behind TEARS of the dawn's HOUR", post, 0, NONE, 1, 0, 1);
        post.restore();
        due("behind restore()", post, 0, NONE, NONE, NONE, 0);
    }

    private static void roundTakesDays0To130() {
        Check.promise(15, "NoSuchElementException: no such day (0 to 130).");
        TearsPost post = Check.city("houses 2;person 1;");
        Check.noSuchBeside("round", 0, 130, post::round);
        post.weep(0, 2399, 0);
        post.letter(0, 2399);
        Check.same("a ROUND of day 100", 20, post.round(100));
        Check.noSuchAndStays("round(131)", post, () -> post.round(131));
        Check.noSuchAndStays("round(-1)", post, () -> post.round(-1));
        Check.same("the ROUND that is kept", 1, post.rounded(0));
        Check.same("a ROUND of day 130", 0, post.round(130));
    }

    private static void roundIsOfThatDay() {
        Check.promise(15, "HOUSES (but 0) to which LETTERS come on that day");
        TearsPost post = Check.city("houses 2;person 1;");
        post.weep(0, 0, 0);
        post.letter(0, 5);
        post.letter(0, 54);
        int[] due = {20, 0, 0, 20, 0};
        for (int day = 0; day < due.length; day++) {
            Check.same("a ROUND of day " + day, due[day], post.round(day));
        }
        Check.same("a ROUND of day 0 again", 20, post.round(0));
        TearsPost split = Check.city("houses 3;person 1;");
        split.weep(0, 0, 0);
        split.move(0, 2);
        split.weep(0, 0, 0);
        split.letter(0, 0);
        int[] late = {0, 0, 20, 0};
        for (int day = 0; day < late.length; day++) {
            Check.same("a ROUND of day " + day + " of a SPLIT one", late[day], split.round(day));
        }
    }

    private static void roundIsButForHouse0() {
        Check.promise(15, "the sum of WALKS (0 without such HOUSES)");
        TearsPost post = Check.city("houses 2;person 0;person 1;walk 0 1 99;");
        Check.same("without LETTERS", 0, post.round(0));
        post.weep(0, 0, 0);
        post.letter(0, 0);
        Check.same("to HOUSE 0 alone", 0, post.round(0));
        Check.noSuch("its HOUSES", () -> post.rounded(0));
        post.letter(1, 0);
        Check.same("with one that comes BACK", 0, post.round(0));
        TearsPost none = Check.city("houses 2;person 1;");
        none.weep(0, 0, 0);
        Check.same("without LETTERS, though there is a NAME", 0, none.round(0));
        Check.noSuch("its HOUSES", () -> none.rounded(0));
        post.weep(1, 0, 0);
        Check.same("to both", 198, post.round(0));
        Check.same("its HOUSE", 1, post.rounded(0));
        Check.noSuch("no second HOUSE", () -> post.rounded(1));
    }

    private static void roundIsEachOnce() {
        Check.promise(15, "each once, beginning and ending at HOUSE 0");
        TearsPost post = Check.city("houses 4;person 3;person 1;walk 0 3 1;walk 3 1 20;walk 0 1 2;walk 2 3 1;walk 2 1 1;");
        post.weep(0, 0, 0);
        post.weep(1, 0, 0);
        for (int i = 0; i < 3; i++) {
            post.letter(0, i);
        }
        Check.same("to one HOUSE by three LETTERS", 2, post.round(0));
        Check.noSuch("no second HOUSE", () -> post.rounded(1));
        post.letter(1, 5);
        Check.same("to two, though a way by others is less", 23, post.round(0));
        Check.same("the first", 1, post.rounded(0));
        Check.same("the second", 3, post.rounded(1));
        Check.noSuch("no third HOUSE", () -> post.rounded(2));
    }

    private static String rowOf(TearsPost post) {
        StringBuilder row = new StringBuilder();
        for (int i = 0; i < 10; i++) {
            int place = i;
            String house = Check.answer(() -> post.rounded(place));
            row.append(house.endsWith("Exception") ? "." : house);
        }
        return row.toString();
    }

    private static TearsPost nineWithLetters(String walks) {
        StringBuilder text = new StringBuilder("houses 10;");
        for (int house = 1; house < 10; house++) {
            text.append("person ").append(house).append(';');
        }
        TearsPost post = Check.city(text + walks);
        for (int person = 0; person < 9; person++) {
            post.weep(person, 0, 0);
            post.letter(person, 0);
        }
        return post;
    }

    private static void roundIsTheLeast() {
        Check.promise(15, "the row of least WALKS together");
        TearsPost post = nineWithLetters("walk 0 9 1;walk 9 1 1;walk 1 8 1;walk 8 2 1;walk 2 7 1;walk 7 3 1;"
                + "walk 3 6 1;walk 6 4 1;walk 4 5 1;walk 5 0 1;");
        Check.same("a ROUND of nine", 10, post.round(0));
        Check.sameText("its row", "546372819.", rowOf(post));
        TearsPost greedy = Check.city("houses 3;person 1;person 2;walk 0 1 1;walk 0 2 50;walk 1 2 99;");
        for (int person = 0; person < 2; person++) {
            greedy.weep(person, 0, 0);
            greedy.letter(person, 0);
        }
        Check.same("a ROUND of two", 150, greedy.round(0));
        TearsPost three = Check.city("houses 4;person 1;person 2;person 3;walk 0 1 1;walk 1 2 1;walk 2 3 99;walk 0 3 9;"
                + "walk 1 3 9;walk 0 2 9;");
        for (int person = 0; person < 3; person++) {
            three.weep(person, 0, 0);
            three.letter(person, 0);
        }
        Check.same("a ROUND that the nearest first would miss", 28, three.round(0));
        Check.sameText("its row", "213.......", rowOf(three));
    }

    private static void roundOfLikeOnesIsTheFirst() {
        Check.promise(15, "of like ones the first as a row");
        TearsPost post = nineWithLetters("");
        Check.same("a ROUND of like WALKS", 100, post.round(0));
        Check.sameText("its row", "123456789.", rowOf(post));
        TearsPost longest = nineWithLetters("walk 1 2 99;walk 2 3 99;walk 8 9 99;");
        Check.same("a ROUND round three long WALKS", 100, longest.round(0));
        Check.sameText("its row", "134256879.", rowOf(longest));
        TearsPost back = nineWithLetters("walk 0 1 11;");
        Check.same("a ROUND that begins at the second", 100, back.round(0));
        Check.sameText("its row", "213456789.", rowOf(back));
    }

    private static void roundIsKept() {
        Check.promise(15, "it is kept");
        TearsPost post = Check.city("houses 3;person 1;person 2;");
        post.weep(0, 0, 0);
        post.weep(1, 0, 0);
        post.letter(0, 0);
        post.letter(1, 30);
        post.round(0);
        Check.sameText("the first row", "1.........", rowOf(post));
        post.round(2);
        Check.sameText("the row in its place", "2.........", rowOf(post));
        post.letter(0, 30);
        post.image();
        post.restore();
        post.move(0, 0);
        Check.sameText("the row behind other calls", "2.........", rowOf(post));
        post.round(2);
        Check.sameText("the row made again", "12........", rowOf(post));
        post.round(5);
        Check.sameText("the row of a day without", "..........", rowOf(post));
    }

    private static void roundedHasItsHouses() {
        Check.promise(16, "The i-th HOUSE of the ROUND that is kept. NoSuchElementException: there is none.");
        TearsPost post = new TearsPost();
        for (int i : new int[] {-1, 0, 1, Integer.MIN_VALUE, Integer.MAX_VALUE}) {
            Check.noSuch("rounded of no ROUND", () -> post.rounded(i));
        }
        TearsPost nine = nineWithLetters("");
        nine.round(0);
        Check.noSuchBeside("rounded of nine", 0, 8, nine::rounded);
        Check.same("the first", 1, nine.rounded(0));
        Check.same("the ninth", 9, nine.rounded(8));
        TearsPost one = Check.city("houses 10;person 9;");
        one.weep(0, 0, 0);
        one.letter(0, 0);
        one.round(0);
        Check.noSuchBeside("rounded of one", 0, 0, one::rounded);
        Check.same("the one", 9, one.rounded(0));
        one.round(1);
        Check.noSuch("rounded of an empty ROUND", () -> one.rounded(0));
    }

    private static void holdsTakesAsksAndHouses() {
        Check.promise(17, "NoSuchElementException: also no such ASK.");
        for (int asks = 1; asks <= 6; asks++) {
            TearsPost post = Check.city("houses 10;" + "ask 1;".repeat(asks));
            Check.noSuchBeside("holds of an ASK", 0, asks - 1, ask -> post.holds(ask, 9) ? 1 : 0);
            Check.noSuchBeside("holds of a HOUSE", 0, 9, house -> post.holds(0, house) ? 1 : 0);
        }
        TearsPost none = Check.city("rule 1;");
        Check.noSuch("holds without ASKS", () -> none.holds(0, 0) ? 1 : 0);
    }

    private static void holdsAsItIsNow() {
        Check.promise(17, "Whether an ASK holds of a HOUSE as it is NOW.");
        TearsPost post = Check.city("houses 10;" + "person 9;".repeat(15) + "person 9 hired;rule grief=9;"
                + "ask house=9 and person=15;ask grief=9;ask hired=1;ask day=99 and hour=23;ask before=2;ask 0-1;");
        post.weep(0, 5, 9);
        post.weep(15, 2399, 9);
        post.weep(1, 2399, 9);
        int[] early = {0, 1, 0, 1, 0, 1};
        for (int ask = 0; ask < 6; ask++) {
            Check.same("ASK " + ask + " ahead", early[ask], post.holds(ask, 9) ? 1 : 0);
        }
        post.weep(15, 2399, 9);
        post.weep(2, 2399, 8);
        for (int ask = 0; ask < 6; ask++) {
            Check.same("ASK " + ask + " of HOUSE 9", 1, post.holds(ask, 9) ? 1 : 0);
            Check.same("ASK " + ask + " of HOUSE 8", ask == 5 ? 1 : 0, post.holds(ask, 8) ? 1 : 0);
        }
        post.move(15, 0);
        Check.same("ASK 0 behind a MOVE", 1, post.holds(0, 9) ? 1 : 0);
    }

    private static void holdsOfAHouseWithoutAName() {
        Check.promise(17, "'person' (its NAME, 99 if it has none), 'grief', 'hired', 'day', 'hour', 'before' "
                + "of the TEARS by which it is called (0 each, if it has none)");
        TearsPost post = Check.city("houses 10;person 9 hired;rule grief<9;ask house=9;ask person=99;ask grief or hired;"
                + "ask day or hour;ask before;ask house=0 and person=99;");
        post.weep(0, 2399, 9);
        post.weep(0, 2399, 9);
        int[] without = {1, 1, 0, 0, 0, 0};
        for (int ask = 0; ask < 6; ask++) {
            Check.same("ASK " + ask + " without a NAME", without[ask], post.holds(ask, 9) ? 1 : 0);
        }
        Check.same("ASK 5 of HOUSE 0", 1, post.holds(5, 0) ? 1 : 0);
        post.weep(0, 2399, 8);
        int[] with = {1, 0, 1, 1, 1, 0};
        for (int ask = 0; ask < 6; ask++) {
            Check.same("ASK " + ask + " with a NAME", with[ask], post.holds(ask, 9) ? 1 : 0);
        }
    }

    private static void strangerIsOfHousesThatThereAre() {
        Check.promise(18, "IllegalArgumentException (behind that): bits of HOUSES that there aren't.");
        for (int houses = 1; houses <= 10; houses++) {
            TearsPost post = Check.city("houses " + houses + ";ask house<5;");
            Check.illegalBeside("stranger of " + houses, 0, (1 << houses) - 1, bits -> post.stranger(bits, 0));
            Check.illegalBeside("stranger of " + houses, 0, (1 << houses) - 1, bits -> post.stranger(bits, 1));
            int more = 1 << houses;
            Check.illegal("a bit more", () -> post.stranger(more | 1, 0));
        }
    }

    private static void strangerLooksAtWhatFirst() {
        Check.promise(18, "NoSuchElementException: another what. IllegalArgumentException (behind that)");
        TearsPost post = Check.city("houses 3;ask house;");
        Check.noSuchBeside("stranger, what", 0, 1, what -> post.stranger(1, what));
        Check.noSuchBeside("stranger, what", 0, 1, what -> post.stranger(7, what));
        Check.noSuch("stranger(8, 2)", () -> post.stranger(8, 2));
        Check.noSuch("stranger(-1, -1)", () -> post.stranger(-1, -1));
        Check.illegal("stranger(8, 1)", () -> post.stranger(8, 1));
    }

    private static void asks(TearsPost post, int houses, int asks, int first) {
        Check.same("stranger(" + houses + ", 0)", asks, post.stranger(houses, 0));
        Check.same("stranger(" + houses + ", 1)", first, post.stranger(houses, 1));
    }

    private static void strangerOfOneOrNone() {
        Check.promise(18, "(0 of one or none)");
        for (String text : new String[] {"houses 10;", "houses 10;ask house=5;"}) {
            TearsPost post = Check.city(text);
            asks(post, 0, 0, NONE);
            for (int house = 0; house < 10; house++) {
                asks(post, 1 << house, 0, NONE);
            }
            asks(post, 1 << 5 | 1, text.length() > 10 ? 1 : NONE, text.length() > 10 ? 0 : NONE);
        }
    }

    private static void strangerThatCannotBeKnown() {
        Check.promise(18, "none, if it can't be");
        TearsPost post = Check.city("houses 3;ask 1;ask 0;ask house=0;");
        asks(post, 6, NONE, NONE);
        asks(post, 7, NONE, NONE);
        asks(post, 5, 1, 2);
        asks(post, 3, 1, 2);
        TearsPost without = Check.city("houses 2;");
        asks(without, 3, NONE, NONE);
        asks(without, 2, 0, NONE);
    }

    private static void strangerWhateverIsAnswered() {
        Check.promise(18, "the least number of ASKS by which, whatever is answered, it is known which");
        TearsPost halves = Check.city("houses 8;ask house<4;ask house/2*2=house;ask house/4*4=house/2*2;");
        asks(halves, 255, 3, 0);
        asks(halves, 3, 1, 1);
        asks(halves, 15, 2, 1);
        TearsPost row = Check.city("houses 4;ask house=0;ask house=1;ask house=2;");
        asks(row, 15, 3, 0);
        asks(row, 7, 2, 0);
        asks(row, 14, 2, 1);
        asks(row, 12, 1, 2);
        TearsPost turns = Check.city("houses 4;ask house=0;ask house=2;ask house<2;");
        asks(turns, 15, 2, 2);
    }

    private static void firstAskIsTheLeast() {
        Check.promise(18, "First ASK: the least by which it comes to so many.");
        TearsPost post = Check.city("houses 4;ask 1;ask house=0;ask house=3;ask house<2;ask house/2*2=house;ask house<2;");
        asks(post, 15, 2, 3);
        asks(post, 7, 2, 1);
        asks(post, 14, 2, 2);
        asks(post, 6, 1, 3);
        asks(post, 5, 1, 1);
        asks(post, 9, 1, 1);
        asks(post, 12, 1, 2);
        asks(post, 10, 1, 2);
    }

    /** Seven by six ASKS, each of which tells of just one HOUSE. */
    private static void strangerBySixAsks() {
        Check.promise(18, "how many ASKS (what 0; NONE), the first ASK (1; NONE: none, or 0 ASKS)");
        StringBuilder text = new StringBuilder("houses 8;");
        for (int ask = 0; ask < 6; ask++) {
            text.append("ask house=").append(ask).append(';');
        }
        TearsPost post = Check.city(text.toString());
        asks(post, 127, 6, 0);
        asks(post, 191, 6, 0);
        asks(post, 255, NONE, NONE);
        asks(post, 192, NONE, NONE);
        asks(post, 63, 5, 0);
        asks(post, 96, 1, 5);
        TearsPost ten = Check.city("houses 10;ask house<5;ask house<2;ask house<7;ask house/2*2=house;"
                + "ask house=4 or house=9;ask house/4*4<house/2*2;");
        Check.same("ten HOUSES", 4, ten.stranger(1023, 0));
    }

    private static void strangerAsItIsNow() {
        Check.promise(18, "ASKS told of HOUSES as they are NOW");
        TearsPost post = Check.city("houses 3;person 0;person 2;ask grief;ask person<99;");
        asks(post, 7, NONE, NONE);
        post.weep(0, 5, 0);
        asks(post, 3, 1, 1);
        asks(post, 6, NONE, NONE);
        asks(post, 7, NONE, NONE);
        post.weep(1, 6, 1);
        asks(post, 7, 2, 0);
        post.weep(1, 6, 0);
        asks(post, 5, NONE, NONE);
    }
}
