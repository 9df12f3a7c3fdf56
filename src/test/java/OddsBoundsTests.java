/** Promises 19 to 29 at their boundaries: the REGISTER, WILLS, ODDS, DRY HOUSES, MOURNERS, the IMAGE. */
public final class OddsBoundsTests {
    private static final int NONE = -1;

    public static void main(String[] args) {
        registerIsAtMost40();
        writeLooksAtThePersonFirst();
        clearTellsHowManyThereWere();
        registerTakesDays0To99();
        registerHasThreeWhats();
        trueOnesOfADay();
        leastChangesOfEmptyRows();
        leastChangesOfEachKind();
        gapIsTheMostOfAny();
        registerOfFullRows();
        willTakesItsNumbers();
        willFromAboveTo();
        willCountsBothHours();
        willOddsAreCutDown();
        lastTakesPeople();
        lastOfOneAlone();
        lastIsCutDownEachTime();
        lastIsByNumber();
        lastIsOfThoseOfHisHouse();
        lastOfSixteen();
        nobodyTakesHouses();
        nobodyIsCutDownOneByOne();
        behindTakesItsNumbers();
        behindLooksAtDaysLast();
        behindNoDays();
        behindEachDay();
        behindNone();
        behindIsOfThoseWhoLiveThere();
        dryTakesDays1To99();
        dryIsAboveThatHour();
        dryIsOfTearsThatCount();
        mournerTakesHouses();
        mournerWithoutNames();
        mournerByTheRules();
        mournerAtLastHours();
        mournerOfOneTwoAndThree();
        mournerChangesNothing();
        imageInPlaceOfAnother();
        imageKeepsWhatItKeeps();
        imageOfEmptyRows();
        imageOfFullRows();
        imageLeavesTheRest();
        restoreWithoutAnImage();
        Check.finish("OddsBoundsTests");
    }

    private static void registerIsAtMost40() {
        Check.promise(19, "One more of THE REGISTER: how many. NONE (STATUS 3): there are 40.");
        TearsPost post = Check.city("person 0;person 0;");
        for (int written = 1; written <= 40; written++) {
            Check.same("how many", written, post.write(written & 1));
        }
        for (int refused = 1; refused <= 3; refused++) {
            Check.same("one more of 40", NONE, post.write(1));
            Check.same("how many there are", 40, post.count(6));
            Check.sameText("STATUS", "0 0 0 " + refused, Check.status(post));
        }
        Check.same("clear()", 40, post.clear());
        Check.same("one more of none", 1, post.write(0));
    }

    private static void writeLooksAtThePersonFirst() {
        Check.promise(19, "int write(int person) throws NoSuchElementException");
        TearsPost post = Check.city("houses 2;person 0;person 1;");
        Check.noSuchBeside("write", 0, 1, post::write);
        Check.noSuchAndStays("write(2)", post, () -> post.write(2));
        Check.noSuchAndStays("write(-1)", post, () -> post.write(-1));
        for (int written = 2; written < 40; written++) {
            post.write(0);
        }
        Check.noSuchAndStays("write(2) of 40", post, () -> post.write(2));
        Check.refused("write(0) of 40", post, 3, () -> post.write(0));
    }

    private static void clearTellsHowManyThereWere() {
        Check.promise(20, "THE REGISTER is empty: how many there were.");
        TearsPost post = Check.city("person 0;");
        Check.same("clear() of none", 0, post.clear());
        post.write(0);
        Check.same("clear() of one", 1, post.clear());
        Check.same("how many there are", 0, post.count(6));
        Check.same("changes behind it", 0, post.register(0, 0));
        Check.same("clear() again", 0, post.clear());
        Check.sameText("STATUS", "0 0 0 0", Check.status(post));
    }

    private static void registerTakesDays0To99() {
        Check.promise(21, "NoSuchElementException: no such day (0 to 99), what.");
        TearsPost post = Check.city("person 0;");
        for (int what = 0; what < 3; what++) {
            int of = what;
            Check.noSuchBeside("register of a day", 0, 99, day -> post.register(day, of));
        }
        post.weep(0, 0, 0);
        post.weep(0, 2399, 0);
        Check.same("TRUE ones of day 0", 1, post.register(0, 2));
        Check.same("TRUE ones of day 99", 1, post.register(99, 2));
        Check.same("TRUE ones of day 98", 0, post.register(98, 2));
    }

    private static void registerHasThreeWhats() {
        Check.promise(21, "least changes (what 0), a GAP (1), TRUE ones (2)");
        TearsPost post = Check.city("person 0;person 0;");
        Check.noSuchBeside("register(0, what)", 0, 2, what -> post.register(0, what));
        Check.noSuch("register(100, 3)", () -> post.register(100, 3));
        for (int i = 0; i < 3; i++) {
            post.weep(0, 5, 0);
        }
        post.write(1);
        due("three beside one", post, 0, 3, 2, 3);
    }

    private static void due(String of, TearsPost post, int day, int changes, int gap, int ones) {
        Check.same(of + ": least changes", changes, post.register(day, 0));
        Check.same(of + ": a GAP", gap, post.register(day, 1));
        Check.same(of + ": TRUE ones", ones, post.register(day, 2));
    }

    private static void trueOnesOfADay() {
        Check.promise(21, "THE TRUE ROW of a day: PERSONS of all TEARS of it, counting or not.");
        TearsPost post = Check.city("houses 2;person 0;person 1;rule grief=0;");
        int[] hours = {23, 24, 24, 47, 48};
        for (int i = 0; i < hours.length; i++) {
            post.weep(i & 1, hours[i], i % 3);
        }
        int[] ones = {1, 3, 1, 0};
        for (int day = 0; day < 4; day++) {
            due("an empty row beside day " + day, post, day, ones[day], ones[day], ones[day]);
        }
        post.write(1);
        post.write(0);
        post.write(1);
        due("the TRUE ROW itself", post, 1, 0, 0, 3);
        due("three beside one", post, 0, 2, 0, 1);
        due("three beside none", post, 3, 3, 0, 0);
    }

    private static void leastChangesOfEmptyRows() {
        Check.promise(21, "Nearest: the least number of changes");
        TearsPost post = Check.city("person 0;");
        due("none beside none", post, 0, 0, 0, 0);
        post.write(0);
        due("one beside none", post, 0, 1, 0, 0);
        post.weep(0, 0, 0);
        due("one beside the like", post, 0, 0, 0, 1);
        post.clear();
        due("none beside one", post, 0, 1, 1, 1);
    }

    /** The rows as texts of digits, of PERSONS. */
    private static TearsPost rows(String ones, String written) {
        TearsPost post = Check.city("person 0;".repeat(5));
        for (int i = 0; i < ones.length(); i++) {
            post.weep(ones.charAt(i) - '0', 5, 0);
        }
        for (int i = 0; i < written.length(); i++) {
            post.write(written.charAt(i) - '0');
        }
        return post;
    }

    private static void leastChangesOfEachKind() {
        Check.promise(21, "(one left out, one put in, one in place of another) that make one of the other");
        due("left out at the beginning", rows("0123", "123"), 0, 1, 1, 4);
        due("left out at the end", rows("0123", "012"), 0, 1, 1, 4);
        due("left out between", rows("0123", "013"), 0, 1, 1, 4);
        due("put in at the beginning", rows("012", "4012"), 0, 1, 0, 3);
        due("put in at the end", rows("012", "0124"), 0, 1, 0, 3);
        due("put in between", rows("012", "0142"), 0, 1, 0, 3);
        due("in place of the first", rows("012", "412"), 0, 1, 0, 3);
        due("in place of the last", rows("012", "014"), 0, 1, 0, 3);
        due("all in place", rows("000", "111"), 0, 3, 0, 3);
        due("two that stand the other way", rows("01", "10"), 0, 2, 1, 2);
        due("one of each kind", rows("0123", "1434"), 0, 3, 1, 4);
    }

    private static void gapIsTheMostOfAny() {
        Check.promise(21, "A GAP: how many TRUE ones are left out in such a way, the most of any.");
        due("two in place, or one out and one in", rows("12", "01"), 0, 2, 1, 2);
        due("though one out and one in are no fewer", rows("1", "0"), 0, 1, 0, 1);
        due("four in place, or two out and two in", rows("0123", "2301"), 0, 4, 2, 4);
        due("moved from the beginning to the end", rows("01234", "12340"), 0, 2, 1, 5);
        due("not left out, if that takes more changes", rows("001", "122"), 0, 3, 0, 3);
    }

    private static void registerOfFullRows() {
        Check.promise(21, "a row of PERSONS as the nun wrote it (at most 40)");
        TearsPost post = Check.city("person 0;person 0;");
        for (int told = 0; told < 200; told++) {
            post.weep(told < 160 ? 0 : 1, 2399, 0);
        }
        due("none beside 200", post, 99, 200, 200, 200);
        for (int written = 0; written < 40; written++) {
            post.write(1);
        }
        due("40 like the last of 200", post, 99, 160, 160, 200);
        due("40 beside none", post, 0, 40, 0, 0);
        post.clear();
        for (int written = 0; written < 40; written++) {
            post.write(0);
        }
        due("40 like the first of 200", post, 99, 160, 160, 200);
    }

    private static void willTakesItsNumbers() {
        Check.promise(22, "NoSuchElementException: no such PERSON, HOUSE, HOURS, another what.");
        TearsPost post = Check.city("houses 10;" + "person 9;".repeat(16));
        post.weep(15, 0, 0);
        Check.noSuchBeside("will of a PERSON", 0, 15, person -> post.will(person, 9, 0, 2399, 0));
        Check.noSuchBeside("will of a HOUSE", 0, 9, house -> post.will(15, house, 0, 2399, 0));
        Check.noSuchBeside("will from", 0, 2399, from -> post.will(15, 9, from, 2399, 0));
        Check.noSuchBeside("will to", 0, 2399, to -> post.will(15, 9, 0, to, 0));
        Check.noSuchBeside("will, what", 0, 1, what -> post.will(15, 9, 0, 2399, what));
    }

    private static void willFromAboveTo() {
        Check.promise(22, "IllegalArgumentException (behind that): from above to.");
        TearsPost post = Check.city("houses 2;person 1;");
        post.weep(0, 7, 0);
        Check.same("from 7 to 7", 1, post.will(0, 1, 7, 7, 0));
        Check.same("from 7 to 8", 2, post.will(0, 1, 7, 8, 0));
        Check.illegalAndStays("from 8 to 7", post, () -> post.will(0, 1, 8, 7, 0));
        Check.illegal("from 2399 to 0", () -> post.will(0, 1, 2399, 0, 1));
        Check.noSuch("no such PERSON, from above to", () -> post.will(1, 1, 8, 7, 0));
        Check.noSuch("no such HOUSE, from above to", () -> post.will(0, 2, 8, 7, 0));
        Check.noSuch("no such from, above to", () -> post.will(0, 1, 2400, 7, 0));
        Check.noSuch("no such to, below from", () -> post.will(0, 1, 8, -1, 0));
        Check.noSuch("no such what, from above to", () -> post.will(0, 1, 8, 7, 2));
    }

    private static void willCountsBothHours() {
        Check.promise(22, "of a HOUSE at how many of these HOURS (both counted) it had that NAME");
        TearsPost post = Check.city("houses 2;person 0;person 0;");
        post.weep(0, 10, 0);
        post.weep(1, 20, 0);
        int[][] rows = {{0, 9, 0}, {0, 10, 1}, {9, 10, 1}, {10, 10, 1}, {10, 11, 2}, {11, 11, 1}, {10, 19, 10},
            {10, 20, 10}, {19, 19, 1}, {19, 20, 1}, {20, 20, 0}, {0, 2399, 10}};
        for (int[] row : rows) {
            Check.same("HOURS from " + row[0] + " to " + row[1], row[2], post.will(0, 0, row[0], row[1], 0));
        }
        int[][] others = {{0, 19, 0}, {0, 20, 1}, {20, 20, 1}, {2399, 2399, 1}, {2398, 2399, 2}, {0, 2399, 2380}};
        for (int[] row : others) {
            Check.same("HOURS from " + row[0] + " to " + row[1], row[2], post.will(1, 0, row[0], row[1], 0));
            Check.same("HOURS of another HOUSE", 0, post.will(1, 1, row[0], row[1], 0));
        }
        TearsPost ruled = Check.city("person 0;person 0;rule grief=0;");
        ruled.weep(0, 10, 0);
        ruled.weep(1, 20, 1);
        Check.same("HOURS behind TEARS that don't COUNT", 20, ruled.will(0, 0, 0, 29, 0));
        Check.same("HOURS by TEARS that don't COUNT", 0, ruled.will(1, 0, 0, 29, 0));
        ruled.weep(1, 30, 0);
        Check.same("HOURS up to TEARS that COUNT", 20, ruled.will(0, 0, 0, 39, 0));
        TearsPost all = Check.city("person 0;");
        all.weep(0, 0, 0);
        Check.same("all HOURS", 2400, all.will(0, 0, 0, 2399, 0));
        all.weep(0, 2399, 0);
        Check.same("all HOURS, told twice", 2400, all.will(0, 0, 0, 2399, 0));
    }

    private static void willOddsAreCutDown() {
        Check.promise(22, "its ODDS: that by all HOUSES' together, in thousandths, cut down");
        TearsPost post = Check.city("houses 4;person 0;person 3;");
        Check.same("ODDS of none", 0, post.will(0, 0, 0, 2399, 1));
        for (int house = 0; house < 3; house++) {
            post.move(0, house);
            post.weep(0, 5, 0);
        }
        for (int house = 0; house < 3; house++) {
            Check.same("ODDS of one of three", 333, post.will(0, house, 5, 5, 1));
        }
        Check.same("ODDS of a fourth", 0, post.will(0, 3, 5, 5, 1));
        Check.same("ODDS an HOUR ahead", 0, post.will(0, 0, 4, 4, 1));
        Check.same("ODDS of another's", 0, post.will(1, 0, 0, 2399, 1));
        post.weep(1, 6, 0);
        Check.same("ODDS of one alone", 1000, post.will(1, 3, 0, 2399, 1));
        TearsPost ten = Check.city("houses 10;person 0;");
        for (int house = 0; house < 10; house++) {
            ten.move(0, house);
            ten.weep(0, house == 9 ? 1 : 0, 0);
        }
        Check.same("HOURS of one of ten", 2400, ten.will(0, 8, 0, 2399, 0));
        Check.same("ODDS of one of ten", 100, ten.will(0, 8, 0, 2399, 1));
        Check.same("ODDS of the one that is later", 99, ten.will(0, 9, 0, 2399, 1));
    }

    private static void lastTakesPeople() {
        Check.promise(23, "LAST of a PERSON in his HOUSE.");
        for (int people = 1; people <= 16; people += 5) {
            TearsPost post = Check.city("person 0;".repeat(people));
            Check.noSuchBeside("last of " + people, 0, people - 1, post::last);
        }
    }

    private static void lastOfOneAlone() {
        Check.promise(23, "LAST: that a PERSON is the last of the day, in millionths");
        int[] chances = {0, 1, 500, 999, 1000};
        for (int chance : chances) {
            TearsPost post = Check.city("person 0 chance " + chance + ";");
            Check.same("LAST of one of " + chance + " alone", 1000 * chance, post.last(0));
            TearsPost two = Check.city("person 0 chance " + chance + ";person 0 chance 0;person 0 chance 0;");
            Check.same("LAST of one of " + chance + " beside two of 0", 1000 * chance, two.last(0));
            Check.same("LAST of one of 0", 0, two.last(1));
            TearsPost sure = Check.city("person 0 chance " + chance + ";person 0 chance 1000;");
            Check.same("LAST of one of " + chance + " beside one of 1000", 500 * chance, sure.last(0));
        }
    }

    /** The numbers, by his CHANCE by 1000, cut down, are 997002, 1996, 0 first; each is then by one more than it says. */
    private static void lastIsCutDownEachTime() {
        Check.promise(23, "each by his CHANCE by 1000, cut down, then by one more than it says, cut down, together");
        TearsPost two = Check.city("person 0 chance 999;person 0 chance 1;person 0 chance 1;");
        Check.same("LAST beside 1 and 1", 997002 + 1996 / 2 + 0, two.last(0));
        Check.same("LAST of 1 beside 999 and 1", 999 / 1000 + 998002 / 1000 / 2 + 999 / 1000 / 3, two.last(1));
        TearsPost three = Check.city("person 0 chance 333;person 0 chance 7;person 0 chance 77;person 0 chance 777;");
        Check.same("LAST beside 7, 77 and 777", 68061 + 243303 / 2 + 21495 / 3 + 139 / 4, three.last(0));
        TearsPost turned = Check.city("person 0 chance 1;person 0 chance 999;person 0 chance 333;person 0 chance 999;");
        Check.same("LAST of one of 1", 0 + 1 / 2 + 666 / 3 + 332 / 4, turned.last(0));
    }

    private static String crowd(int... chances) {
        StringBuilder text = new StringBuilder();
        for (int chance : chances) {
            text.append("person 0 chance ").append(chance).append(';');
        }
        return text.toString();
    }

    private static void lastIsByNumber() {
        Check.promise(23, "for each of the others, by number, each number becomes it by (1000 less CHANCE) "
                + "and the one below it by CHANCE, together, by 1000, cut down");
        int due = 910123 + 88757 / 2 + 1115 / 3 + 3 / 4;
        Check.same("LAST beside 7, 7, 77", due, Check.city(crowd(1000, 7, 7, 77)).last(0));
        Check.same("LAST beside 77, 7, 7", due, Check.city(crowd(77, 7, 7, 1000)).last(3));
        int up = 8587 + 108693 / 2 + 406603 / 3 + 419358 / 4 + 56754 / 5;
        int down = 8587 + 108693 / 2 + 406602 / 3 + 419358 / 4 + 56755 / 5;
        Check.same("LAST beside 137, 582, 867, 821", up, Check.city(crowd(1000, 137, 582, 867, 821)).last(0));
        Check.same("LAST between 137, 582 and 867, 821", up, Check.city(crowd(137, 582, 1000, 867, 821)).last(2));
        Check.same("LAST beside 821, 867, 582, 137", down, Check.city(crowd(1000, 821, 867, 582, 137)).last(0));
        TearsPost again = Check.city(crowd(1000, 1000, 1000, 1000));
        Check.same("LAST of four", 250000, again.last(0));
        Check.tell(again, crowd(1000, 7, 7, 77));
        Check.same("LAST behind another's", due, again.last(0));
    }

    private static void lastIsOfThoseOfHisHouse() {
        Check.promise(23, "on a day each PERSON of a HOUSE comes out in tears once by his CHANCE");
        TearsPost post = Check.city("houses 2;person 0 chance 500;person 0 chance 1000;person 1 chance 1000;");
        Check.same("LAST beside one", 250000, post.last(0));
        post.move(2, 0);
        Check.same("LAST beside two", 166666, post.last(0));
        Check.same("LAST of one who came", 416666, post.last(2));
        post.move(1, 1);
        post.move(2, 1);
        Check.same("LAST of one who stays alone", 500000, post.last(0));
        Check.same("LAST of two in another HOUSE", 500000, post.last(2));
    }

    private static void lastOfSixteen() {
        Check.promise(23, "by how many of the others come out: numbers, 1,000,000 of none at first");
        TearsPost sure = Check.city("person 0 chance 1000;".repeat(16));
        Check.same("LAST of the first of sixteen", 62500, sure.last(0));
        Check.same("LAST of the last of sixteen", 62500, sure.last(15));
        TearsPost most = Check.city("person 0 chance 0;".repeat(15) + "person 0 chance 1000;");
        Check.same("LAST of the only one of sixteen", 1000000, most.last(15));
        Check.same("LAST of another", 0, most.last(0));
    }

    private static void nobodyTakesHouses() {
        Check.promise(24, "NOBODY of a HOUSE.");
        for (int houses = 1; houses <= 10; houses += 3) {
            TearsPost post = Check.city("houses " + houses + ";person 0;");
            Check.noSuchBeside("nobody of " + houses, 0, houses - 1, post::nobody);
        }
    }

    private static void nobodyIsCutDownOneByOne() {
        Check.promise(24, "NOBODY: of all of the HOUSE 1,000,000 by (1000 less CHANCE) by 1000, cut down, one by one.");
        TearsPost post = Check.city("houses 10;person 0 chance 0;person 1 chance 1000;person 2 chance 999;"
                + "person 2 chance 999;person 2 chance 999;person 3 chance 1;person 3 chance 1;person 3 chance 1;"
                + "person 4 chance 333;person 4 chance 333;person 4 chance 333;person 9 chance 1;");
        int[] due = {1000000, 0, 0, 997002, 296740, 1000000, 1000000, 1000000, 1000000, 999000};
        for (int house = 0; house < 10; house++) {
            Check.same("NOBODY of HOUSE " + house, due[house], post.nobody(house));
        }
        Check.same("NOBODY by number", 18997, Check.city(crowd(741, 880, 303, 123)).nobody(0));
        Check.same("NOBODY by number, the other way", 18998, Check.city(crowd(123, 303, 880, 741)).nobody(0));
        post.move(2, 5);
        Check.same("NOBODY of two of 999", 1, post.nobody(2));
        post.move(3, 5);
        Check.same("NOBODY of one of 999", 1000, post.nobody(2));
        TearsPost full = Check.city("person 0 chance 0;".repeat(16));
        Check.same("NOBODY of sixteen of 0", 1000000, full.nobody(0));
    }

    private static void behindTakesItsNumbers() {
        Check.promise(25, "NoSuchElementException: no such HOUSE, PERSON (NONE may be).");
        TearsPost post = Check.city("houses 10;" + "person 9;".repeat(16));
        Check.noSuchBeside("behind of a HOUSE", 0, 9, house -> post.behind(house, 15, 1));
        Check.noSuchBeside("behind of a PERSON", NONE, 15, person -> post.behind(9, person, 1));
        Check.illegalBeside("behind days", 0, 100, days -> post.behind(9, 15, days));
        Check.illegalBeside("behind days of NONE", 0, 100, days -> post.behind(9, NONE, days));
    }

    private static void behindLooksAtDaysLast() {
        Check.promise(25, "IllegalArgumentException (behind that): days.");
        TearsPost post = Check.city("houses 2;person 1;");
        Check.illegalAndStays("behind(1, 0, 101)", post, () -> post.behind(1, 0, 101));
        Check.noSuch("behind(2, 0, 101)", () -> post.behind(2, 0, 101));
        Check.noSuch("behind(-1, 0, -1)", () -> post.behind(-1, 0, -1));
        Check.noSuch("behind(1, 1, 101)", () -> post.behind(1, 1, 101));
        Check.noSuch("behind(1, -2, -1)", () -> post.behind(1, -2, -1));
    }

    private static void behindNoDays() {
        Check.promise(25, "the NAME is NOW's, sure (1,000,000), at first");
        TearsPost post = Check.city("houses 2;person 0;person 0;");
        int[] called = {NONE, 0, 1, 0};
        for (int told = 0; told < called.length; told++) {
            for (int person = NONE; person <= 1; person++) {
                int sure = person == called[told] ? 1000000 : 0;
                Check.same("behind 0 days of " + person, sure, post.behind(0, person, 0));
            }
            post.weep(told & 1, 5, 0);
        }
        Check.same("behind 0 days of another HOUSE", 1000000, post.behind(1, NONE, 0));
    }

    private static void behindEachDay() {
        Check.promise(25, "with each day each one's becomes it by NOBODY by 1,000,000, cut down, and his LAST");
        TearsPost post = Check.city("houses 2;person 0 chance 333;person 0 chance 7;");
        post.weep(0, 5, 0);
        int nobody = 667000 * 993 / 1000;
        int last = (993000 * 333 / 1000) + (7000 * 333 / 1000) / 2;
        Check.same("NOBODY", nobody, post.nobody(0));
        Check.same("LAST", last, post.last(0));
        long chance = 1000000;
        for (int days = 0; days <= 100; days++) {
            Check.same("behind " + days + " days", chance, post.behind(0, 0, days));
            chance = chance * nobody / 1000000 + last;
        }
        TearsPost still = Check.city("person 0 chance 0;");
        still.weep(0, 5, 0);
        Check.same("behind 100 days without any", 1000000, still.behind(0, 0, 100));
        TearsPost sure = Check.city("person 0 chance 1000;person 0 chance 0;");
        sure.weep(1, 5, 0);
        Check.same("the NAME behind one day", 0, sure.behind(0, 1, 1));
        Check.same("one who comes out each day", 1000000, sure.behind(0, 0, 1));
    }

    private static void behindNone() {
        Check.promise(25, "(NONE: has no NAME)");
        TearsPost post = Check.city("houses 3;person 0;person 1;");
        post.weep(1, 5, 0);
        Check.same("no NAME behind 0 days", 1000000, post.behind(0, NONE, 0));
        Check.same("no NAME behind 1 day", 900000, post.behind(0, NONE, 1));
        Check.same("no NAME behind 3 days", 729000, post.behind(0, NONE, 3));
        Check.same("no NAME behind 100 days", 22, post.behind(0, NONE, 100));
        Check.same("no NAME of one that has one", 0, post.behind(1, NONE, 100));
        Check.same("no NAME of a HOUSE without PEOPLE", 1000000, post.behind(2, NONE, 100));
    }

    private static void behindIsOfThoseWhoLiveThere() {
        Check.promise(25, "BEHIND days: that a HOUSE is called by a PERSON (NONE: has no NAME), in millionths.");
        TearsPost post = Check.city("houses 2;person 0 chance 500;person 0 chance 500;");
        post.weep(0, 5, 0);
        post.move(0, 1);
        Check.same("one who moved out, behind 1 day", 500000, post.behind(0, 0, 1));
        Check.same("one who moved out, behind 2 days", 250000, post.behind(0, 0, 2));
        Check.same("one who stays, behind 1 day", 500000, post.behind(0, 1, 1));
        Check.same("one who moved in, behind 1 day", 500000, post.behind(1, 0, 1));
        Check.same("one of another HOUSE", 0, post.behind(1, 1, 100));
    }

    private static void dryTakesDays1To99() {
        Check.promise(26, "DRY HOUSES by so many days (1 to 99), as bits. IllegalArgumentException: not as told.");
        TearsPost post = Check.city("houses 10;");
        Check.illegalBeside("dry", 1, 99, post::dry);
        for (int houses = 1; houses <= 10; houses++) {
            Check.same("DRY ones of " + houses, (1 << houses) - 1, Check.city("houses " + houses + ";").dry(1));
        }
    }

    private static void dryIsAboveThatHour() {
        Check.promise(26, "in so many days up to NOW (HOURS above NOW less 24 by these days)");
        TearsPost post = Check.city("houses 5;person 0;person 1;person 2;person 3;person 4;");
        int[] hours = {23, 24, 25, 2375, 2399};
        for (int person = 0; person < 5; person++) {
            post.weep(person, hours[person], 0);
        }
        Check.same("DRY by 1", 15, post.dry(1));
        Check.same("DRY by 2", 7, post.dry(2));
        Check.same("DRY by 98", 7, post.dry(98));
        Check.same("DRY by 99", 1, post.dry(99));
        TearsPost edge = Check.city("houses 3;person 0;person 1;person 2;");
        edge.weep(0, 100, 0);
        edge.weep(1, 101, 0);
        edge.weep(2, 124, 0);
        Check.same("DRY of 100 at 124", 1, edge.dry(1));
        edge.weep(2, 125, 0);
        Check.same("DRY of 101 at 125", 3, edge.dry(1));
        Check.same("DRY by two days", 0, edge.dry(2));
        edge.weep(0, 125, 0);
        Check.same("DRY behind new TEARS", 2, edge.dry(1));
        TearsPost early = Check.city("houses 2;person 0;");
        early.weep(0, 0, 0);
        Check.same("DRY at 0", 2, early.dry(1));
        Check.same("DRY at 0 by 99", 2, early.dry(99));
    }

    private static void dryIsOfTearsThatCount() {
        Check.promise(26, "DRY is a HOUSE, out of which none that COUNT came");
        TearsPost post = Check.city("houses 3;person 0;person 1;rule grief=0;");
        post.weep(0, 50, 1);
        Check.same("DRY behind TEARS that don't COUNT", 7, post.dry(1));
        post.weep(0, 50, 0);
        Check.same("DRY behind TEARS that COUNT", 6, post.dry(1));
        post.weep(1, 74, 1);
        Check.same("DRY by a NOW that doesn't COUNT", 7, post.dry(1));
        Check.same("DRY by two days", 6, post.dry(2));
        post.move(0, 2);
        post.weep(0, 74, 0);
        Check.same("DRY behind one who moved", 3, post.dry(1));
    }

    private static void mournerTakesHouses() {
        Check.promise(27, "A MOURNER's worth.");
        for (int houses = 1; houses <= 10; houses += 3) {
            TearsPost post = Check.city("houses " + houses + ";");
            Check.noSuchBeside("mourner of " + houses, 0, houses - 1, post::mourner);
        }
    }

    private static void mournerWithoutNames() {
        Check.promise(27, "one to each NAME that there is now, would MEAN just one HOUSE: less those that do without him");
        TearsPost post = Check.city("houses 2;person 0;person 1;rule grief=0;");
        Check.same("without TEARS", 0, post.mourner(0));
        post.weep(0, 5, 1);
        Check.same("without NAMES", 0, post.mourner(0));
        post.weep(0, 5, 0);
        Check.same("at the one that has a NAME", -1, post.mourner(0));
        Check.same("at one that has none", 0, post.mourner(1));
        post.weep(1, 5, 0);
        Check.same("at the other, with two NAMES", -1, post.mourner(1));
    }

    private static void mournerByTheRules() {
        Check.promise(27, "(99 as a PERSON, GRIEF 0) to come out of it now (these COUNT, if RULES hold)");
        String[] holding = {"person=99", "person<100 and 98<person", "grief=0", "hired=1", "day=2", "hour=3",
            "before=2", "house=1"};
        for (String rule : holding) {
            Check.same("a mourner by " + rule, NONE, mournerBy("(" + rule + ") or person=0"));
            Check.same("a mourner by not " + rule, 0, mournerBy("not (" + rule + ") or person=0"));
        }
    }

    /** A mourner at HOUSE 1, whose NAME is 0 by two TEARS on that day, where only that RULE is told. */
    private static int mournerBy(String rule) {
        TearsPost post = Check.city("houses 3;person 1;rule " + rule + ";");
        post.weep(0, 47, 5);
        post.weep(0, 48, 5);
        post.weep(0, 51, 5);
        return post.mourner(1);
    }

    private static void mournerAtLastHours() {
        Check.promise(27, "how many TEARS, counting or not, came out of that HOUSE on that day ahead of these");
        TearsPost post = Check.city("houses 2;person 0;person 1;rule before=0 and day=99 and hour=23 or person=0;");
        post.weep(0, 2398, 0);
        Check.same("with one ahead on that day", 0, post.mourner(0));
        post.weep(1, 2399, 0);
        Check.same("whether the other's TEARS COUNT", 1, post.tears(1, 5));
        Check.same("with one ahead on that day", 0, post.mourner(1));
        Check.same("with one ahead in another HOUSE", 0, post.mourner(0));
        TearsPost day = Check.city("houses 2;person 0;person 1;rule before=0;");
        day.weep(0, 23, 0);
        Check.same("with one ahead on the day", 0, day.mourner(0));
        day.weep(1, 24, 0);
        Check.same("with one ahead on the day before", -1, day.mourner(0));
    }

    private static void mournerOfOneTwoAndThree() {
        Check.promise(27, "how many more LETTERS, written from then on");
        TearsPost post = Check.city("houses 10;person 0;person 9;");
        int[] due = {-1, 1, 0, 0};
        for (int house = 0; house < 4; house++) {
            post.move(0, house);
            post.weep(0, 5, 0);
            for (int at = 0; at <= house; at++) {
                Check.same("a mourner at one of " + (house + 1), due[house], post.mourner(at));
            }
            Check.same("a mourner where he has none", 0, post.mourner(9));
        }
        post.weep(1, 5, 0);
        Check.same("a mourner at another NAME's", -1, post.mourner(9));
        Check.same("a mourner at one of four", 0, post.mourner(3));
    }

    private static void mournerChangesNothing() {
        Check.promise(27, "were one who is hired");
        TearsPost post = Check.city("houses 2;person 0;person 1;ask person=99;");
        post.weep(0, 5, 3);
        String state = Check.state(post);
        Check.same("a mourner", -1, post.mourner(0));
        Check.same("a mourner again", -1, post.mourner(0));
        Check.noSuch("mourner(2)", () -> post.mourner(2));
        Check.sameText("all behind it", state, Check.state(post));
        Check.same("the next TEARS", 2, post.weep(0, 5, 0));
        Check.same("'before' of them", 1, post.tears(1, 4));
    }

    private static void imageInPlaceOfAnother() {
        Check.promise(28, "AN IMAGE is kept, in place of another one.");
        TearsPost post = Check.city("houses 2;person 0;");
        post.image();
        post.weep(0, 1, 0);
        post.image();
        post.weep(0, 2, 0);
        post.restore();
        Check.same("TEARS of the later IMAGE", 1, post.count(4));
        post.weep(0, 3, 0);
        post.restore();
        Check.same("TEARS of the same once more", 1, post.count(4));
        Check.same("NOW", 1, post.count(8));
    }

    private static void imageKeepsWhatItKeeps() {
        Check.promise(28, "AN IMAGE keeps TEARS, who lives where, LETTERS, the REGISTER, STATUS.");
        TearsPost post = Check.city("houses 2;person 0;person 1;rule grief<5;ask grief;");
        post.weep(0, 5, 1);
        post.weep(1, 6, 5);
        post.weep(1, 5, 5);
        post.letter(0, 5);
        post.write(0);
        post.write(1);
        post.move(1, 0);
        post.image();
        Check.same("THE REGISTER, which is the TRUE ROW", 0, post.register(0, 0));
        String state = Check.state(post);
        for (int turn = 0; turn < 2; turn++) {
            post.move(0, 1);
            post.weep(1, 7, 0);
            post.weep(1, 5, 0);
            post.letter(1, 7);
            post.clear();
            post.write(1);
            post.write(0);
            post.write(0);
            Check.same("restore()", 1, post.restore() ? 1 : 0);
            Check.sameText("all behind restore()", state, Check.state(post));
            Check.sameText("STATUS behind restore()", "0 1 0 0", Check.status(post));
        }
    }

    /** What was told behind an IMAGE lies in no answer behind restore(), at no HOUR. */
    private static void imageOfEmptyRows() {
        Check.promise(29, "It is as the IMAGE again: true.");
        TearsPost post = Check.city("houses 2;person 1;person 1;");
        post.image();
        post.weep(0, 0, 0);
        post.letter(1, 0);
        post.write(0);
        Check.same("restore()", 1, post.restore() ? 1 : 0);
        Check.same("the NAME at the last HOUR", NONE, post.name(1, 2399));
        Check.same("HOURS of the NAME", 0, post.will(0, 1, 0, 2399, 0));
        Check.same("DRY HOUSES", 3, post.dry(99));
        Check.same("a mourner", 0, post.mourner(1));
        Check.same("TRUE ones", 0, post.register(0, 2));
        Check.same("least changes", 0, post.register(0, 0));
        post.weep(1, 0, 0);
        Check.same("'before' of new TEARS", 0, post.tears(0, 4));
        Check.same("a ROUND of the LETTER that was written behind it", 0, post.round(0));
        Check.same("a GAP", 1, post.register(0, 1));
    }

    /** Three full rows, each with one call more than it takes. */
    private static void imageOfFullRows() {
        Check.promise(28, "AN IMAGE keeps TEARS, who lives where, LETTERS, the REGISTER, STATUS.");
        TearsPost post = Check.city("houses 10;" + "person 0;".repeat(15) + "person 9;");
        for (int told = 0; told <= 200; told++) {
            post.weep(15, 2399, 9);
        }
        for (int written = 0; written <= 40; written++) {
            post.letter(15, 2399);
            post.write(15);
        }
        post.image();
        Check.same("restore() of full rows", 1, post.restore() ? 1 : 0);
        int[] due = {200, 40, 40, 0, 2399, 0, 1, 1, 1};
        for (int i = 0; i < due.length; i++) {
            Check.same("count(" + (4 + i) + ")", due[i], post.count(4 + i));
        }
        int[] last = {15, 9, 2399, 9, 199, 1};
        for (int what = 0; what < 6; what++) {
            Check.same("the last TEARS' " + what, last[what], post.tears(199, what));
        }
        Check.same("the last LETTER's NAME", 15, post.post(39, 0));
        Check.same("the last LETTER's HOUR", 2399, post.post(39, 1));
        Check.same("the REGISTER", 160, post.register(99, 0));
        Check.same("the last PERSON's HOUSE", 9, post.person(15, 0));
    }

    private static void imageLeavesTheRest() {
        Check.promise(29, "It is as the IMAGE again: true.");
        TearsPost post = Check.city("houses 2;person 1;");
        post.weep(0, 0, 0);
        post.letter(0, 0);
        post.image();
        post.round(0);
        Check.tell(post, " x");
        Check.feed(post, "houses");
        Check.same("restore()", 1, post.restore() ? 1 : 0);
        Check.same("the ROUND", 1, post.rounded(0));
        Check.same("the place of the FAULT", 1, post.fault());
        Check.same("bytes of the tape", 20, post.count(7));
        Check.sameText("STATUS", "0 0 0 0", Check.status(post));
    }

    private static void restoreWithoutAnImage() {
        Check.promise(29, "False: there is none.");
        TearsPost post = Check.city("houses 2;person 1;");
        post.weep(0, 5, 0);
        String state = Check.state(post);
        Check.same("restore() of none", 0, post.restore() ? 1 : 0);
        Check.sameText("all behind it", state, Check.state(post));
        post.image();
        Check.same("restore() of one", 1, post.restore() ? 1 : 0);
        Check.tell(post, "x");
        Check.same("restore() behind a FAULT", 1, post.restore() ? 1 : 0);
        Check.tell(post, "houses 2;person 1;");
        Check.same("restore() behind a CITY", 0, post.restore() ? 1 : 0);
        Check.same("TEARS", 0, post.count(4));
    }
}
