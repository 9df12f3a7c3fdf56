/** Promises 1 to 8 at their boundaries, but for what a text tells: TextBoundsTests looks at that. */
public final class CityBoundsTests {
    private static final int BLANKS = 0x20202020;
    private static final String FULL = "houses 2;person 0;person 1 chance 5 hired;walk 0 1 7;rule grief<5;ask 1;ask hour;";

    public static void main(String[] args) {
        newObjectHasOneHouse();
        newObjectHasNoPeople();
        newObjectHasNothingElse();
        feedTakesTheHighestByteFirst();
        feedTakesEveryByte();
        feedTakesUpTo700();
        feedBehindACity();
        cityTakesTheFirstBytes();
        cityTakesNoMoreThanTheTapeHas();
        cityEmptiesTheTape();
        cityIsAllAnew();
        cityIsAllAnewEachTime();
        cityOfFewerPeople();
        cityTakesAwayWhatWas();
        cityTakesAwayTheLastOfEach();
        cityWithAFaultLeavesAllElse();
        statusOfTexts();
        faultIsTheLatest();
        countHasThirteen();
        countIsOfEach();
        personIsOneOfPeople();
        personHasThreeWhats();
        walkIsBetweenHousesThatThereAre();
        walkIsZeroOfOne();
        moveTakesPeopleAndHouses();
        movesFromThenOn();
        Check.finish("CityBoundsTests");
    }

    private static void newObjectHasOneHouse() {
        Check.promise(1, "One HOUSE, no PEOPLE.");
        TearsPost post = new TearsPost();
        Check.same("HOUSES", 1, post.count(0));
        Check.noSuchBeside("name", 0, 0, house -> post.name(house, 0));
        Check.noSuchBeside("walk", 0, 0, house -> post.walk(house, 0));
        Check.noSuchBeside("walk to", 0, 0, house -> post.walk(0, house));
        Check.noSuchBeside("nobody", 0, 0, post::nobody);
        Check.noSuchBeside("mourner", 0, 0, post::mourner);
        Check.noSuchBeside("behind", 0, 0, house -> post.behind(house, -1, 1));
        Check.illegalBeside("stranger", 0, 1, houses -> post.stranger(houses, 0));
        Check.same("the NAME of the one HOUSE", -1, post.name(0, 2399));
        Check.same("NOBODY of the one HOUSE", 1000000, post.nobody(0));
        Check.same("BEHIND of the one HOUSE", 1000000, post.behind(0, -1, 100));
        Check.same("DRY HOUSES", 1, post.dry(99));
        Check.same("the one HOUSE's mourner", 0, post.mourner(0));
    }

    private static void newObjectHasNoPeople() {
        Check.promise(1, "One HOUSE, no PEOPLE.");
        TearsPost post = new TearsPost();
        Check.same("PEOPLE", 0, post.count(1));
        for (int person = -1; person <= 1; person++) {
            int one = person;
            Check.noSuch("person", () -> post.person(one, 0));
            Check.noSuch("move", () -> moved(post, one, 0));
            Check.noSuch("weep", () -> post.weep(one, 0, 0));
            Check.noSuch("houses", () -> post.houses(one, 0));
            Check.noSuch("letter", () -> post.letter(one, 0));
            Check.noSuch("write", () -> post.write(one));
            Check.noSuch("will", () -> post.will(one, 0, 0, 0, 0));
            Check.noSuch("last", () -> post.last(one));
        }
        Check.noSuch("behind", () -> post.behind(0, 0, 0));
        Check.same("behind of NONE", 1000000, post.behind(0, -1, 0));
        Check.sameText("STATUS", "0 0 0 0", Check.status(post));
    }

    private static void newObjectHasNothingElse() {
        Check.promise(1, "One HOUSE, no PEOPLE.");
        TearsPost post = new TearsPost();
        for (int what = 1; what <= 12; what++) {
            Check.same("count(" + what + ")", 0, post.count(what));
        }
        Check.same("fault()", -1, post.fault());
        Check.same("restore()", 0, post.restore() ? 1 : 0);
        Check.same("clear()", 0, post.clear());
        Check.same("round(0)", 0, post.round(0));
        Check.noSuch("rounded(0)", () -> post.rounded(0));
        Check.noSuch("tears(0, 0)", () -> post.tears(0, 0));
        Check.noSuch("post(0, 0)", () -> post.post(0, 0));
        Check.noSuch("holds(0, 0)", () -> post.holds(0, 0) ? 1 : 0);
        Check.same("register(0, 0)", 0, post.register(0, 0));
        Check.illegal("city(1)", () -> post.city(1));
        Check.same("city(0)", 0, post.city(0));
    }

    private static void feedTakesTheHighestByteFirst() {
        Check.promise(2, "Twenty bytes come behind the tape, of each number the highest first");
        TearsPost post = new TearsPost();
        Check.same("how many it has", 20, post.feed(0x72756c65, 0x206e6f74, 0x20313b61, 0x736b2031, 0x3b72756c));
        Check.same("how many it has", 40, post.feed(0x6520323b, BLANKS, BLANKS, BLANKS, BLANKS));
        Check.same("'rule not 1;ask 1;rule 2;' as a CITY", 0, post.city(24));
        Check.same("RULES", 2, post.count(2));
        Check.same("ASKS", 1, post.count(3));
    }

    private static void feedTakesEveryByte() {
        Check.promise(2, "Twenty bytes come behind the tape");
        TearsPost post = new TearsPost();
        for (int sign : new int[] {0x78, 0x00, 0x80, 0xff}) {
            for (int place = 0; place < 20; place++) {
                int[] five = {BLANKS, BLANKS, BLANKS, BLANKS, BLANKS};
                int shift = 24 - place % 4 * 8;
                five[place / 4] = five[place / 4] & ~(255 << shift) | sign << shift;
                post.feed(five[0], five[1], five[2], five[3], five[4]);
                Check.same("byte " + sign + " at " + place, 1, post.city(20));
                Check.same("its place", place, post.fault());
            }
        }
    }

    private static void feedTakesUpTo700() {
        Check.promise(2, "NONE, and none come, if it would have more than 700");
        TearsPost post = new TearsPost();
        for (int fed = 20; fed <= 700; fed += 20) {
            Check.same("bytes of the tape", fed, post.feed(BLANKS, BLANKS, BLANKS, BLANKS, BLANKS));
        }
        for (int i = 0; i < 3; i++) {
            Check.same("a feed beyond 700", -1, post.feed(0x78787878, 0x78787878, 0x78787878, 0x78787878, 0x78787878));
            Check.same("bytes of the tape behind it", 700, post.count(7));
        }
        Check.sameText("STATUS", "0 0 0 0", Check.status(post));
        Check.illegal("city(701)", () -> post.city(701));
        Check.same("the 700 bytes that came", 0, post.city(700));
        Check.same("a feed behind them", 20, post.feed(BLANKS, BLANKS, BLANKS, BLANKS, 0x20202078));
        Check.same("its bytes", 1, post.city(20));
        Check.same("the place of the last of them", 19, post.fault());
    }

    private static void feedBehindACity() {
        Check.promise(2, "Twenty bytes come behind the tape, of each number the highest first: how many it has");
        TearsPost post = new TearsPost();
        Check.feed(post, "houses 3;person 2; person 1;                ");
        Check.same("bytes of three feeds", 60, post.count(7));
        Check.same("a CITY of all", 0, post.city(60));
        Check.same("the first feed behind it", 20, post.feed(BLANKS, BLANKS, BLANKS, BLANKS, BLANKS));
        Check.same("a CITY of blanks", 0, post.city(20));
        Check.same("HOUSES of it", 1, post.count(0));
        Check.same("PEOPLE of it", 0, post.count(1));
    }

    private static void cityTakesTheFirstBytes() {
        Check.promise(3, "The tape's first n bytes (it is empty then) are a CITY, all anew");
        int[] places = {-1, 0, 0, 0, 0, 0, 6, 7, 8, -1, 9, 9, 12, 13, 14, -1, -1, -1, -1, -1, -1};
        for (int n = 0; n <= 20; n++) {
            TearsPost post = new TearsPost();
            Check.feed(post, "houses 3;ask 1;");
            Check.same("the first " + n + " as a CITY", places[n] < 0 ? 0 : 1, post.city(n));
            Check.same("the place of its FAULT", places[n], post.fault());
            Check.same("its HOUSES", n == 9 || n >= 15 ? 3 : 1, post.count(0));
            Check.same("its ASKS", n >= 15 ? 1 : 0, post.count(3));
        }
    }

    private static void cityTakesNoMoreThanTheTapeHas() {
        Check.promise(3, "IllegalArgumentException: the tape has not so many, n below 0 (nothing changes).");
        TearsPost post = Check.city(FULL);
        Check.tell(post, "walk");
        post.weep(0, 30, 1);
        post.letter(0, 30);
        post.write(1);
        Check.illegalAndStays("city(1) of an empty tape", post, () -> post.city(1));
        Check.feed(post, "houses 3;");
        Check.illegalAndStays("city(21)", post, () -> post.city(21));
        Check.illegalAndStays("city(-1)", post, () -> post.city(-1));
        Check.illegal("city(least)", () -> post.city(Integer.MIN_VALUE));
        Check.illegal("city(greatest)", () -> post.city(Integer.MAX_VALUE));
        Check.same("bytes of the tape", 20, post.count(7));
        Check.same("the place of the latest FAULT", 4, post.fault());
        Check.same("city(20)", 0, post.city(20));
        Check.same("HOUSES of the tape", 3, post.count(0));
        Check.same("city(0) of an empty tape", 0, post.city(0));
        Check.same("HOUSES of nothing", 1, post.count(0));
    }

    private static void cityEmptiesTheTape() {
        Check.promise(3, "(it is empty then)");
        TearsPost post = new TearsPost();
        String[] texts = {"houses 2;           person 1;", "houses 2;           persom 1;"};
        int[][] ends = {{0, 29, 0}, {0, 20, 0}, {0, 0, 0}, {1, 29, 1}, {1, 20, 0}, {1, 27, 1}};
        for (int[] end : ends) {
            Check.feed(post, texts[end[0]]);
            Check.same("bytes ahead of city(" + end[1] + ")", 40, post.count(7));
            Check.same("city(" + end[1] + ")", end[2], post.city(end[1]));
            Check.same("bytes behind city(" + end[1] + ")", 0, post.count(7));
        }
        Check.same("the first feed behind a FAULT", 20, post.feed(BLANKS, BLANKS, BLANKS, BLANKS, BLANKS));
    }

    private static TearsPost fullCity() {
        TearsPost post = Check.city(FULL);
        post.weep(0, 30, 1);
        post.weep(1, 31, 1);
        post.weep(1, 30, 1);
        post.letter(1, 40);
        post.letter(0, 40);
        post.write(0);
        post.write(1);
        post.image();
        post.move(0, 1);
        post.round(2);
        return post;
    }

    private static void cityIsAllAnew() {
        Check.promise(3, "are a CITY, all anew: 0 (STATUS stays)");
        TearsPost post = fullCity();
        Check.same("a CITY that tells less", 0, Check.tell(post, "houses 2;person 0;person 1;"));
        TearsPost fresh = Check.city("houses 2;person 0;person 1;");
        Check.sameText("all but STATUS", Check.state(fresh), Check.state(post));
        Check.sameText("STATUS", "0 1 0 0", Check.status(post));
        post.weep(0, 0, 9);
        Check.same("TEARS without the old RULE", 1, post.tears(0, 5));
        Check.same("NOBODY without the old CHANCE", 900000, post.nobody(1));
    }

    /** Each text fills every row of a CITY; so does what is told ahead of each FAULT. */
    private static void cityIsAllAnewEachTime() {
        Check.promise(3, "are a CITY, all anew");
        TearsPost post = new TearsPost();
        String most = "houses 10;" + "person 9 hired;".repeat(16) + "walk 0 1 5;" + "rule 1;".repeat(4);
        String codes = "ask 0;ask 1;ask 0;ask 1;ask 0;ask " + "1+".repeat(170) + "grief-170;";
        for (int turn = 0; turn < 4; turn++) {
            Check.same("a CITY of all", 0, Check.tell(post, most + codes));
            Check.same("PEOPLE", 16, post.count(1));
            Check.same("RULES", 4, post.count(2));
            Check.same("ASKS", 6, post.count(3));
            post.weep(15, turn, turn & 1);
            Check.same("TEARS by four RULES", 1, post.tears(0, 5));
            for (int ask = 0; ask < 5; ask++) {
                Check.same("ASK " + ask, ask & 1, post.holds(ask, 9) ? 1 : 0);
            }
            Check.same("the last ASK", turn & 1, post.holds(5, 9) ? 1 : 0);
            Check.same("a FAULT behind all", 1, Check.tell(post, most + codes + "x"));
            Check.same("a CITY of little", 0, Check.tell(post, "houses 2;person 1;rule 1;ask 1;"));
            int[] little = {2, 1, 1, 1};
            for (int what = 0; what < 4; what++) {
                Check.same("count(" + what + ") of it", little[what], post.count(what));
            }
            Check.same("a CITY of nothing", 0, Check.tell(post, ""));
            int[] nothing = {1, 0, 0, 0};
            for (int what = 0; what < 4; what++) {
                Check.same("count(" + what + ") of nothing", nothing[what], post.count(what));
            }
        }
        Check.tell(post, "houses 2;person 1;");
        Check.same("a WALK that was told once", 10, post.walk(0, 1));
        Check.same("one who was hired once", 0, post.person(0, 2));
    }

    private static void cityOfFewerPeople() {
        Check.promise(3, "are a CITY, all anew");
        for (int people = 16; people >= 0; people--) {
            TearsPost post = new TearsPost();
            String crowd = "person 0 chance 500;".repeat(16);
            Check.same("sixteen", 0, Check.tell(post, crowd));
            Check.same("sixteen again", 0, Check.tell(post, crowd));
            Check.same("fewer", 0, Check.tell(post, "person 0 chance 0;".repeat(people)));
            Check.same("NOBODY of " + people, 1000000, post.nobody(0));
            if (people > 0) {
                Check.tell(post, crowd);
                Check.tell(post, "person 0 chance 1000;".repeat(people));
                Check.same("LAST of " + people, 1000000 / people, post.last(0));
            }
        }
    }

    private static void cityTakesAwayWhatWas() {
        Check.promise(3, "TEARS, LETTERS, the REGISTER, the ROUND, the image are gone.");
        TearsPost post = fullCity();
        Check.same("the ROUND ahead", 1, post.rounded(0));
        Check.same("the same CITY once more", 0, Check.tell(post, FULL));
        for (int what = 4; what <= 6; what++) {
            Check.same("count(" + what + ")", 0, post.count(what));
        }
        Check.same("NOW", 0, post.count(8));
        Check.noSuch("tears(0, 0)", () -> post.tears(0, 0));
        Check.noSuch("post(0, 0)", () -> post.post(0, 0));
        Check.noSuch("rounded(0)", () -> post.rounded(0));
        Check.same("TRUE ones of day 1", 0, post.register(1, 2));
        Check.same("changes of day 1", 0, post.register(1, 0));
        Check.same("a home that was moved", 0, post.person(0, 0));
        Check.same("restore()", 0, post.restore() ? 1 : 0);
    }

    /** What was told of an older CITY lies in no answer of the new one, at no HOUR. */
    private static void cityTakesAwayTheLastOfEach() {
        Check.promise(3, "TEARS, LETTERS, the REGISTER, the ROUND, the image are gone.");
        TearsPost post = Check.city("houses 2;person 1;person 1;");
        post.weep(0, 0, 0);
        post.letter(1, 0);
        post.write(0);
        post.image();
        Check.same("a CITY anew", 0, Check.tell(post, "houses 2;person 1;person 0;"));
        Check.same("the NAME at the last HOUR", -1, post.name(1, 2399));
        Check.same("HOUSES of the NAME", 0, post.houses(0, 2399));
        Check.same("HOURS of the NAME", 0, post.will(0, 1, 0, 2399, 0));
        Check.same("DRY HOUSES", 3, post.dry(99));
        Check.same("a mourner", 0, post.mourner(1));
        Check.same("TRUE ones", 0, post.register(0, 2));
        Check.same("least changes", 0, post.register(0, 0));
        post.letter(0, 0);
        Check.same("the HOUSE of a LETTER", -1, post.post(0, 3));
        post.weep(0, 1, 0);
        Check.same("'before' of new TEARS", 0, post.tears(0, 4));
        post.move(1, 1);
        post.weep(1, 2, 0);
        Check.same("a ROUND of the LETTER that was written first", 0, post.round(0));
        Check.same("TRUE ones", 2, post.register(0, 2));
        Check.same("a GAP", 2, post.register(0, 1));
    }

    private static void cityWithAFaultLeavesAllElse() {
        Check.promise(3, "or the FAULT (all else stays, but STATUS)");
        String[] texts = {"x", "houses 3;person 2;walk 0 1 9;rule 0;ask 0;person 3;",
            "person 0;".repeat(17), "rule 0;rule 0;rule 0;rule 0;rule 0;", "ask 0;ask 0;ask", "houses 2;walk 0 1 9;walk 1 1 9;",
            "ask 0;houses 2;"};
        int[] faults = {1, 3, 2, 2, 1, 4, 5};
        for (int i = 0; i < texts.length; i++) {
            TearsPost post = fullCity();
            String state = Check.state(post);
            Check.same("a text with a FAULT", faults[i], Check.tell(post, texts[i]));
            Check.same("its place", 1, post.fault() >= 0 ? 1 : 0);
            String place = "fault " + post.fault() + ",";
            Check.sameText("all but STATUS and the place", state.replace("fault -1,", place), Check.state(post));
            Check.sameText("STATUS", "1 1 0 0", Check.status(post));
            post.weep(1, 40, 5);
            Check.same("TEARS by the old RULE", 0, post.tears(2, 5));
            Check.same("restore() behind a FAULT", 1, post.restore() ? 1 : 0);
            Check.same("a home of the image", 0, post.person(0, 0));
        }
    }

    private static void statusOfTexts() {
        Check.promise(3, "0 (STATUS stays), or the FAULT (all else stays, but STATUS)");
        TearsPost post = new TearsPost();
        for (int refused = 1; refused <= 3; refused++) {
            Check.tell(post, "x");
            Check.same("STATUS of TEXTS", refused, post.count(9));
            Check.tell(post, "houses 2;person 0;");
            Check.same("STATUS behind one without a FAULT", refused, post.count(9));
            Check.illegal("city(1)", () -> post.city(1));
            Check.same("STATUS behind an exception", refused, post.count(9));
        }
        Check.sameText("STATUS", "3 0 0 0", Check.status(post));
    }

    private static void faultIsTheLatest() {
        Check.promise(4, "The place of the latest city()'s FAULT; NONE without.");
        TearsPost post = new TearsPost();
        Check.same("ahead of all", -1, post.fault());
        Check.tell(post, "x");
        Check.same("at the first byte", 0, post.fault());
        Check.tell(post, "");
        Check.same("behind a text without", -1, post.fault());
        Check.tell(post, " ".repeat(699) + "x");
        Check.same("at the last byte", 699, post.fault());
        Check.tell(post, "ask 1" + " ".repeat(695));
        Check.same("behind the last byte", 700, post.fault());
        Check.tell(post, " x");
        Check.same("of the latest", 1, post.fault());
        Check.illegal("city(-1)", () -> post.city(-1));
        Check.same("behind an exception", 1, post.fault());
        Check.tell(post, "person 0;");
        Check.same("behind a text without", -1, post.fault());
        Check.illegal("city(1)", () -> post.city(1));
        Check.same("behind an exception", -1, post.fault());
    }

    private static void countHasThirteen() {
        Check.promise(5, "NoSuchElementException: another what.");
        TearsPost post = fullCity();
        Check.noSuchBeside("count", 0, 12, post::count);
        for (int what = 0; what <= 12; what++) {
            int of = what;
            Check.same("count(" + what + ") throws", 0, Check.answer(() -> post.count(of)).endsWith("Exception") ? 1 : 0);
        }
    }

    private static void countIsOfEach() {
        Check.promise(5, "0 HOUSES, 1 PEOPLE, 2 RULES, 3 ASKS, 4 TEARS, 5 LETTERS, 6 the REGISTER's row, "
                + "7 bytes of the tape, 8 NOW, 9 to 12 STATUS 0 to 3.");
        TearsPost post = Check.city("houses 10;" + "person 9;".repeat(16) + "rule 1;".repeat(4) + "ask 1;".repeat(6));
        Check.tell(post, "x");
        for (int i = 0; i < 12; i++) {
            post.weep(15, 2399, 0);
        }
        for (int i = 0; i < 2; i++) {
            post.weep(0, 2398, 0);
        }
        for (int i = 0; i < 43; i++) {
            post.letter(0, 0);
        }
        for (int i = 0; i < 44; i++) {
            post.write(15);
        }
        Check.feed(post, "x".repeat(61));
        int[] due = {10, 16, 4, 6, 12, 40, 40, 80, 2399, 1, 2, 3, 4};
        for (int what = 0; what < due.length; what++) {
            Check.same("count(" + what + ")", due[what], post.count(what));
        }
    }

    private static void personIsOneOfPeople() {
        Check.promise(6, "NoSuchElementException: no such PERSON (as everywhere), what.");
        for (int people = 1; people <= 16; people += 5) {
            TearsPost post = Check.city("person 0;".repeat(people));
            Check.noSuchBeside("person of " + people, 0, people - 1, person -> post.person(person, 0));
        }
        TearsPost post = Check.city("houses 10;" + "person 0;".repeat(14) + "person 9 chance 1000 hired;person 8 chance 0;");
        Check.same("the HOUSE of 14", 9, post.person(14, 0));
        Check.same("the CHANCE of 14", 1000, post.person(14, 1));
        Check.same("whether 14 is hired", 1, post.person(14, 2));
        Check.same("the HOUSE of 15", 8, post.person(15, 0));
        Check.same("the CHANCE of 15", 0, post.person(15, 1));
        Check.same("whether 15 is hired", 0, post.person(15, 2));
    }

    private static void personHasThreeWhats() {
        Check.promise(6, "0 his HOUSE now, 1 CHANCE, 2 whether he is hired (1)");
        TearsPost post = Check.city("houses 2;person 1 chance 7 hired;");
        Check.noSuchBeside("person(0, what)", 0, 2, what -> post.person(0, what));
        post.move(0, 0);
        Check.same("his HOUSE now", 0, post.person(0, 0));
        Check.same("CHANCE behind a move", 7, post.person(0, 1));
        Check.same("hired behind a move", 1, post.person(0, 2));
    }

    private static void walkIsBetweenHousesThatThereAre() {
        Check.promise(7, "NoSuchElementException: no such HOUSE (as everywhere).");
        for (int houses = 1; houses <= 10; houses += 3) {
            TearsPost post = Check.city("houses " + houses + ";");
            Check.noSuchBeside("walk from", 0, houses - 1, house -> post.walk(house, 0));
            Check.noSuchBeside("walk to", 0, houses - 1, house -> post.walk(0, house));
            Check.noSuchBeside("walk to itself", 0, houses - 1, house -> post.walk(house, house));
        }
    }

    private static void walkIsZeroOfOne() {
        Check.promise(7, "A WALK between two HOUSES (0, if both are one).");
        TearsPost post = Check.city("houses 3;walk 0 1 1;walk 2 1 99;");
        int[][] due = {{0, 1, 10}, {1, 0, 99}, {10, 99, 0}};
        for (int house = 0; house < 3; house++) {
            for (int other = 0; other < 3; other++) {
                Check.same("walk(" + house + ", " + other + ")", due[house][other], post.walk(house, other));
            }
        }
        TearsPost twice = Check.city("houses 2;walk 0 1 5;walk 1 0 6;");
        Check.same("a WALK told twice, there", 6, twice.walk(0, 1));
        Check.same("a WALK told twice, back", 6, twice.walk(1, 0));
    }

    private static long moved(TearsPost post, int person, int house) {
        post.move(person, house);
        return 0;
    }

    private static void moveTakesPeopleAndHouses() {
        Check.promise(8, "A PERSON MOVES.");
        TearsPost post = Check.city("houses 3;person 0;person 1;");
        Check.noSuchBeside("move of a PERSON", 0, 1, person -> moved(post, person, person));
        Check.noSuchBeside("move to a HOUSE", 0, 2, house -> moved(post, 0, house));
        Check.same("his HOUSE behind the last that was taken", 2, post.person(0, 0));
        Check.same("another's HOUSE", 1, post.person(1, 0));
        Check.noSuchAndStays("move(2, 0)", post, () -> moved(post, 2, 0));
        Check.noSuchAndStays("move(-1, 0)", post, () -> moved(post, -1, 0));
        Check.noSuchAndStays("move(0, 3)", post, () -> moved(post, 0, 3));
        Check.noSuchAndStays("move(0, -1)", post, () -> moved(post, 0, -1));
    }

    private static void movesFromThenOn() {
        Check.promise(8, "TEARS told from then on are out of the new HOUSE");
        TearsPost post = Check.city("houses 2;person 0;");
        post.weep(0, 5, 0);
        post.move(0, 1);
        Check.same("the HOUSE of TEARS ahead", 0, post.tears(0, 1));
        Check.same("the old HOUSE's NAME", 0, post.name(0, 5));
        Check.same("the new HOUSE's NAME", -1, post.name(1, 5));
        post.weep(0, 5, 0);
        Check.same("the HOUSE of TEARS behind", 1, post.tears(1, 1));
        Check.same("'before' in the new HOUSE", 0, post.tears(1, 4));
        Check.same("the new HOUSE's NAME", 0, post.name(1, 5));
        post.move(0, 1);
        Check.same("his HOUSE, moved to where he lives", 1, post.person(0, 0));
    }
}
