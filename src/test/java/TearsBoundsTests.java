/** Promises 9 to 12 at their boundaries: TEARS that are taken and refused, VALUES, NAMES at their HOURS. */
public final class TearsBoundsTests {
    private static final String TWO = "houses 2;person 0;person 1 hired;";

    public static void main(String[] args) {
        tearsAreAtMost200();
        hourIsNotBelowNow();
        hourIsAtMost2399();
        griefIsZeroToNine();
        weepLooksAtThePersonFirst();
        tearsAreThoseTold();
        tearsHaveSixWhats();
        valuesAtBothEnds();
        hourIs24ByTheDay();
        beforeIsOfThatHouseAndDay();
        countIfAllRulesHold();
        nameIsOfThatHourOrAhead();
        ofLikeHoursTheLaterTold();
        nameIsOfTearsThatCount();
        nameTakesHousesAndHours();
        housesAsBits();
        housesTakesPeopleAndHours();
        Check.finish("TearsBoundsTests");
    }

    private static void tearsAreAtMost200() {
        Check.promise(9, "TEARS: how many there are. NONE (STATUS 1): there are 200");
        TearsPost post = Check.city("person 0;person 0;");
        for (int told = 1; told <= 200; told++) {
            Check.same("TEARS " + told, told, post.weep(told & 1, told, told % 10));
        }
        Check.same("the latest's PERSON", 0, post.tears(199, 0));
        for (int refused = 1; refused <= 3; refused++) {
            Check.same("TEARS 201", -1, post.weep(1, 300, 1));
            Check.same("how many there are", 200, post.count(4));
            Check.same("NOW", 200, post.count(8));
            Check.same("STATUS 1", refused, post.count(10));
        }
        Check.noSuch("tears(200, 0)", () -> post.tears(200, 0));
        Check.same("the NAME by the latest", 0, post.name(0, 2399));
        Check.noSuch("weep(2, 300, 1) of 200", () -> post.weep(2, 300, 1));
        Check.same("STATUS 1 behind an exception", 3, post.count(10));
        Check.same("a mourner beside 200 TEARS", -1, post.mourner(0));
    }

    private static void hourIsNotBelowNow() {
        Check.promise(9, "the HOUR is below NOW or above 2399");
        TearsPost post = Check.city(TWO);
        Check.refused("weep at -1", post, 1, () -> post.weep(0, -1, 0));
        Check.same("weep at 0", 1, post.weep(0, 0, 0));
        Check.same("weep at 50", 2, post.weep(0, 50, 0));
        Check.refused("weep at 49", post, 1, () -> post.weep(1, 49, 0));
        Check.same("weep at 50", 3, post.weep(1, 50, 0));
        Check.same("weep at 51", 4, post.weep(1, 51, 0));
        Check.same("weep at 50, below NOW", -1, post.weep(0, 50, 0));
        Check.same("weep at least", -1, post.weep(0, Integer.MIN_VALUE, 0));
        Check.same("STATUS 1", 4, post.count(10));
    }

    private static void hourIsAtMost2399() {
        Check.promise(9, "the HOUR is below NOW or above 2399");
        TearsPost post = Check.city(TWO);
        Check.refused("weep at 2400", post, 1, () -> post.weep(0, 2400, 0));
        Check.same("NOW", 0, post.count(8));
        Check.same("weep at 2399", 1, post.weep(0, 2399, 0));
        Check.same("NOW", 2399, post.count(8));
        Check.refused("weep at 2400", post, 1, () -> post.weep(0, 2400, 0));
        Check.refused("weep at greatest", post, 1, () -> post.weep(0, Integer.MAX_VALUE, 0));
        Check.same("weep at 2399", 2, post.weep(1, 2399, 0));
    }

    private static void griefIsZeroToNine() {
        Check.promise(9, "the GRIEF is not as told");
        TearsPost post = Check.city(TWO);
        Check.same("a GRIEF of 0", 1, post.weep(0, 5, 0));
        Check.same("a GRIEF of 9", 2, post.weep(0, 5, 9));
        Check.same("the first GRIEF", 0, post.tears(0, 3));
        Check.same("the second GRIEF", 9, post.tears(1, 3));
        Check.refused("a GRIEF of -1", post, 1, () -> post.weep(0, 6, -1));
        Check.refused("a GRIEF of 10", post, 1, () -> post.weep(0, 6, 10));
        Check.same("a GRIEF of least", -1, post.weep(0, 6, Integer.MIN_VALUE));
        Check.same("a GRIEF of greatest", -1, post.weep(0, 6, Integer.MAX_VALUE));
        Check.same("TEARS behind them", 3, post.weep(0, 5, 4));
        Check.same("STATUS 1", 4, post.count(10));
    }

    private static void weepLooksAtThePersonFirst() {
        Check.promise(9, "int weep(int person, int hour, int grief) throws NoSuchElementException");
        int[][] rows = {{2, 7, 0}, {-1, 7, 0}, {2, 6, 0}, {-1, 2400, 0}, {2, 7, 10}, {-1, 7, -1}};
        for (int[] row : rows) {
            TearsPost post = Check.city(TWO);
            Check.noSuchBeside("weep", 0, 1, person -> post.weep(person, 7, 0));
            String what = "weep(" + row[0] + ", " + row[1] + ", " + row[2] + ")";
            Check.noSuchAndStays(what, post, () -> post.weep(row[0], row[1], row[2]));
        }
    }

    private static void tearsAreThoseTold() {
        Check.promise(10, "NoSuchElementException: there are none such, another what.");
        TearsPost post = Check.city(TWO);
        Check.noSuch("tears(0, 0) of none", () -> post.tears(0, 0));
        for (int told = 1; told <= 3; told++) {
            post.weep(0, told, 0);
            Check.noSuchBeside("tears", 0, told - 1, tears -> post.tears(tears, 0));
        }
        post.weep(0, 1, 0);
        Check.noSuch("tears that were refused", () -> post.tears(3, 0));
    }

    private static void tearsHaveSixWhats() {
        Check.promise(10, "0 PERSON, 1 HOUSE, 2 HOUR, 3 GRIEF, 4 'before', 5 whether they COUNT (1)");
        TearsPost post = Check.city("houses 3;person 0;person 2;rule grief<9;");
        post.weep(1, 2398, 8);
        post.weep(1, 2399, 9);
        post.weep(0, 2399, 0);
        int[][] due = {{1, 2, 2398, 8, 0, 1}, {1, 2, 2399, 9, 1, 0}, {0, 0, 2399, 0, 0, 1}};
        for (int tears = 0; tears < 3; tears++) {
            int of = tears;
            Check.noSuchBeside("tears(" + tears + ", what)", 0, 5, what -> post.tears(of, what));
            for (int what = 0; what < 6; what++) {
                Check.same("tears(" + tears + ", " + what + ")", due[tears][what], post.tears(tears, what));
            }
        }
    }

    /** The last of sixteen weeps out of the last of ten HOUSES, of GRIEF 9, in the last HOUR, as the 200th. */
    private static void valuesAtBothEnds() {
        Check.promise(10, "5 whether they COUNT (1)");
        String[] rules = {"house", "person", "grief", "hired", "day", "hour", "before"};
        int[] most = {9, 15, 9, 1, 99, 23, 199};
        for (int i = 0; i < rules.length; i++) {
            TearsPost post = Check.city("houses 10;" + "person 0;".repeat(15) + "person 9 hired;rule "
                    + rules[i] + "=0;");
            post.weep(0, 0, 0);
            Check.same(rules[i] + " is 0", 1, post.tears(0, 5));
            TearsPost last = Check.city("houses 10;" + "person 9;".repeat(15) + "person 9 hired;rule "
                    + rules[i] + "=" + most[i] + ";rule not " + rules[i] + "<" + most[i] + ";");
            for (int told = 0; told < 199; told++) {
                last.weep(0, 2399, 0);
            }
            last.weep(15, 2399, 9);
            Check.same(rules[i] + " is " + most[i], 1, last.tears(199, 5));
        }
    }

    private static void hourIs24ByTheDay() {
        Check.promise(10, "2 HOUR");
        int[][] due = {{0, 0, 0}, {1, 0, 1}, {23, 0, 23}, {24, 1, 0}, {25, 1, 1}, {47, 1, 23}, {48, 2, 0},
            {2375, 98, 23}, {2376, 99, 0}, {2399, 99, 23}};
        for (int[] row : due) {
            TearsPost post = Check.city("person 0;rule day=" + row[1] + ";rule hour=" + row[2] + ";");
            post.weep(0, row[0], 0);
            Check.same("day and hour of " + row[0], 1, post.tears(0, 5));
            Check.same("the HOUR", row[0], post.tears(0, 2));
        }
    }

    private static void beforeIsOfThatHouseAndDay() {
        Check.promise(10, "'before' (how many TEARS, counting or not, came out of that HOUSE on that day ahead of these)");
        TearsPost post = Check.city("houses 2;person 0;person 0;person 1;rule grief=0;");
        int[][] told = {{0, 24, 0, 0}, {0, 24, 1, 1}, {1, 47, 0, 2}, {2, 47, 0, 0}, {0, 47, 9, 3}, {0, 48, 0, 0},
            {2, 48, 0, 0}, {2, 71, 0, 1}, {1, 71, 0, 1}, {1, 72, 0, 0}};
        for (int i = 0; i < told.length; i++) {
            post.weep(told[i][0], told[i][1], told[i][2]);
            Check.same("'before' of " + i, told[i][3], post.tears(i, 4));
        }
        post.move(0, 1);
        post.weep(0, 72, 0);
        Check.same("'before' in another HOUSE", 0, post.tears(10, 4));
        post.weep(2, 72, 0);
        Check.same("'before' behind one who moved", 1, post.tears(11, 4));
        Check.same("'before' of old TEARS", 2, post.tears(2, 4));
    }

    private static void countIfAllRulesHold() {
        Check.promise(10, "all of them must hold of TEARS that COUNT.");
        TearsPost post = Check.city("person 0;rule grief<5;rule 2<grief;rule not (grief=4);rule 3;");
        int[] due = {0, 0, 0, 1, 0, 0, 0, 0, 0, 0};
        for (int grief = 0; grief < 10; grief++) {
            post.weep(0, 9, grief);
            Check.same("whether TEARS of GRIEF " + grief + " COUNT", due[grief], post.tears(grief, 5));
        }
    }

    private static void nameIsOfThatHourOrAhead() {
        Check.promise(11, "THE NAME of a HOUSE at an HOUR; NONE: it has none.");
        TearsPost post = Check.city(TWO + "person 0;");
        Check.same("the NAME without TEARS", -1, post.name(0, 2399));
        post.weep(0, 0, 0);
        post.weep(2, 10, 0);
        post.weep(0, 2399, 0);
        int[][] due = {{0, 0}, {1, 0}, {9, 0}, {10, 2}, {11, 2}, {2398, 2}, {2399, 0}};
        for (int[] row : due) {
            Check.same("the NAME at " + row[0], row[1], post.name(0, row[0]));
            Check.same("the NAME of another at " + row[0], -1, post.name(1, row[0]));
        }
        TearsPost late = Check.city(TWO);
        late.weep(1, 6, 0);
        Check.same("the NAME an HOUR ahead", -1, late.name(1, 5));
        Check.same("the NAME of that HOUR", 1, late.name(1, 6));
        Check.same("the NAME above NOW", 1, late.name(1, 7));
        Check.same("the NAME at 0", -1, late.name(1, 0));
    }

    private static void ofLikeHoursTheLaterTold() {
        Check.promise(11, "of that HOUR or ahead (of like HOURS the later told)");
        TearsPost post = Check.city("houses 2;person 0;person 0;person 1;");
        post.weep(1, 5, 0);
        post.weep(0, 5, 0);
        Check.same("the later told", 0, post.name(0, 5));
        post.weep(2, 5, 0);
        Check.same("another HOUSE's later told", 0, post.name(0, 5));
        post.weep(1, 5, 0);
        Check.same("the latest told", 1, post.name(0, 5));
        Check.same("ahead of them", -1, post.name(0, 4));
    }

    private static void nameIsOfTearsThatCount() {
        Check.promise(11, "the PERSON of the last TEARS that COUNT, out of it");
        TearsPost post = Check.city("houses 2;person 0;person 0;rule grief=0;");
        post.weep(0, 5, 1);
        Check.same("TEARS that don't COUNT", -1, post.name(0, 5));
        post.weep(0, 6, 0);
        post.weep(1, 7, 1);
        Check.same("behind TEARS that don't COUNT", 0, post.name(0, 7));
        post.move(1, 1);
        post.weep(1, 8, 0);
        Check.same("behind another HOUSE's TEARS", 0, post.name(0, 8));
        post.move(0, 1);
        post.weep(0, 9, 0);
        Check.same("the old HOUSE of one who moved", 0, post.name(0, 9));
        Check.same("the new HOUSE of one who moved", 0, post.name(1, 9));
    }

    private static void nameTakesHousesAndHours() {
        Check.promise(11, "NoSuchElementException: also the HOUR is not 0 to 2399 (as everywhere).");
        TearsPost post = Check.city("houses 10;person 9;");
        post.weep(0, 0, 0);
        Check.noSuchBeside("name of a HOUSE", 0, 9, house -> post.name(house, 0));
        Check.noSuchBeside("name at an HOUR", 0, 2399, hour -> post.name(9, hour));
        Check.noSuch("name(10, 2400)", () -> post.name(10, 2400));
    }

    private static void housesAsBits() {
        Check.promise(12, "HOUSES of a NAME at an HOUR, as bits.");
        TearsPost post = Check.city("houses 10;person 0;person 5;");
        Check.same("HOUSES without TEARS", 0, post.houses(0, 2399));
        int bits = 0;
        for (int house = 0; house < 10; house++) {
            post.move(0, house);
            post.weep(0, 10 + house, 0);
            Check.same("HOUSES an HOUR ahead", bits, post.houses(0, 9 + house));
            bits |= 1 << house;
            Check.same("HOUSES", bits, post.houses(0, 10 + house));
        }
        post.weep(1, 20, 0);
        Check.same("HOUSES ahead of another", 1023, post.houses(0, 19));
        Check.same("HOUSES behind another", 1023 - 32, post.houses(0, 20));
        Check.same("HOUSES of another", 32, post.houses(1, 2399));
        Check.same("HOUSES at 0", 0, post.houses(1, 0));
    }

    private static void housesTakesPeopleAndHours() {
        Check.promise(12, "int houses(int person, int hour) throws NoSuchElementException");
        TearsPost post = Check.city("houses 2;" + "person 1;".repeat(16));
        Check.noSuchBeside("houses of a PERSON", 0, 15, person -> post.houses(person, 0));
        Check.noSuchBeside("houses at an HOUR", 0, 2399, hour -> post.houses(0, hour));
        Check.noSuch("houses(-1, 0), whose NAME no HOUSE has", () -> post.houses(-1, 0));
        Check.noSuch("houses(99, 0)", () -> post.houses(99, 0));
    }
}
