/** Promises 13 to 18: letters, what becomes of them, rounds, asks and strangers. */
public final class PostTests {
    public static void main(String[] args) {
        letter();
        means();
        dawns();
        splits();
        wanders();
        byTearsKnownNow();
        round();
        longRound();
        holds();
        stranger();
        strangerByTurns();
        Check.finish("PostTests");
    }

    private static void letter() {
        TearsPost post = Check.city("person 0;person 0;");
        Check.noSuch("letter(2, 0)", () -> post.letter(2, 0));
        Check.noSuch("letter(-1, 0)", () -> post.letter(-1, 0));
        Check.noSuch("letter(0, -1)", () -> post.letter(0, -1));
        Check.noSuch("letter(0, 2400)", () -> post.letter(0, 2400));
        for (int i = 0; i < 40; i++) {
            Check.same("letter " + i, i, post.letter(i & 1, 2399 - i));
        }
        Check.same("letter 40", -1, post.letter(0, 0));
        Check.same("LETTERS", 40, post.count(5));
        Check.same("STATUS 2", 1, post.count(11));
        Check.noSuch("letter(2, 0) of 40", () -> post.letter(2, 0));
        Check.noSuch("letter(0, 2400) of 40", () -> post.letter(0, 2400));
        Check.same("STATUS 2 behind exceptions", 1, post.count(11));
        Check.same("post(39, 0)", 1, post.post(39, 0));
        Check.same("post(39, 1)", 2360, post.post(39, 1));
        Check.noSuch("post(40, 0)", () -> post.post(40, 0));
        Check.noSuch("post(-1, 0)", () -> post.post(-1, 0));
        Check.noSuch("post(0, 6)", () -> post.post(0, 6));
        Check.noSuch("post(0, -1)", () -> post.post(0, -1));
    }

    private static void due(String what, TearsPost post, int letter, int means, int house, int day, int wandered) {
        Check.same(what + ": means", means, post.post(letter, 2));
        Check.same(what + ": house", house, post.post(letter, 3));
        Check.same(what + ": day", day, post.post(letter, 4));
        Check.same(what + ": wandered", wandered, post.post(letter, 5));
    }

    private static void means() {
        TearsPost post = Check.city("houses 3;person 2;person 1;");
        post.weep(0, 100, 0);
        post.letter(0, 99);
        post.letter(0, 100);
        post.letter(1, 100);
        due("none then, one at the dawn", post, 0, -1, 2, 4, 1);
        due("one then", post, 1, 2, 2, 4, 0);
        due("none at all", post, 2, -1, -1, -1, 0);
        post.move(0, 0);
        post.weep(0, 100, 0);
        due("split then", post, 1, -2, 0, 6, 1);
    }

    private static void dawns() {
        TearsPost post = Check.city("houses 2;person 1;person 1;");
        post.weep(0, 3, 0);
        post.letter(0, 5);
        post.letter(0, 6);
        post.letter(0, 0);
        post.letter(0, 29);
        post.letter(0, 30);
        post.letter(0, 2399);
        int[] days = {0, 1, 0, 1, 2, 100};
        for (int i = 0; i < 6; i++) {
            due("a dawn behind the hour", post, i, i == 2 ? -1 : 1, 1, days[i], i == 2 ? 1 : 0);
        }
        TearsPost late = Check.city("houses 2;person 1;person 1;");
        late.letter(0, 5);
        late.letter(0, 6);
        late.weep(0, 29 * 24 + 7, 0);
        due("a name behind the thirtieth dawn", late, 0, -1, -1, -1, 0);
        due("a name ahead of the thirtieth dawn", late, 1, -1, 1, 30, 1);
        TearsPost just = Check.city("houses 2;person 1;person 1;");
        just.letter(0, 5);
        just.weep(0, 29 * 24 + 6, 0);
        due("a name of the thirtieth dawn's hour", just, 0, -1, 1, 29, 1);
        TearsPost far = Check.city("houses 2;person 1;");
        far.weep(0, 2399, 0);
        far.letter(0, 2399);
        due("a dawn above all hours of tears", far, 0, 1, 1, 100, 0);
    }

    private static void splits() {
        TearsPost post = Check.city("houses 4;person 3;person 2;person 3;");
        post.weep(0, 1, 0);
        post.move(0, 2);
        post.weep(0, 2, 0);
        post.letter(0, 2);
        due("split at three dawns", post, 0, -2, 2, 2, 1);
        post.weep(1, 40, 0);
        due("split at two dawns, then one", post, 0, -2, 3, 2, 1);
        TearsPost apart = Check.city("houses 4;person 3;person 2;person 3;person 2;");
        apart.weep(0, 1, 0);
        apart.move(0, 2);
        apart.weep(0, 2, 0);
        apart.letter(0, 2);
        apart.weep(1, 7, 0);
        apart.weep(2, 7, 0);
        due("split, then none", apart, 0, -2, -1, -1, 0);
        apart.weep(0, 31, 0);
        apart.move(0, 3);
        apart.weep(0, 31, 0);
        due("split dawns that are not side by side", apart, 0, -2, 2, 3, 1);
        apart.weep(0, 78, 0);
        apart.move(0, 1);
        apart.weep(0, 78, 0);
        due("the least of three houses", apart, 0, -2, 1, 3, 1);
    }

    private static void wanders() {
        TearsPost post = Check.city("houses 2;person 0;person 0;");
        post.weep(0, 1, 0);
        post.letter(0, 1);
        due("to the house that it means", post, 0, 0, 0, 0, 0);
        post.weep(1, 2, 0);
        due("back, though it means one", post, 0, 0, -1, -1, 0);
        post.move(0, 1);
        post.weep(0, 60, 0);
        due("to another house", post, 0, 0, 1, 3, 1);
    }

    private static void byTearsKnownNow() {
        TearsPost post = Check.city("houses 2;person 0;person 1;");
        post.letter(0, 0);
        due("ahead of tears", post, 0, -1, -1, -1, 0);
        post.weep(0, 0, 0);
        due("behind tears", post, 0, 0, 0, 0, 0);
    }

    private static void round() {
        TearsPost post = Check.city("houses 4;person 1;person 2;person 3;person 0;"
                + "walk 0 1 9;walk 0 2 9;walk 0 3 9;walk 1 2 1;walk 2 3 1;walk 1 3 5;");
        for (int person = 0; person < 4; person++) {
            post.weep(person, 0, 0);
        }
        Check.same("a round without letters", 0, post.round(0));
        Check.noSuch("its row", () -> post.rounded(0));
        post.letter(3, 0);
        Check.same("a round to house 0 alone", 0, post.round(0));
        post.letter(2, 0);
        post.letter(2, 1);
        Check.same("a round to one house", 18, post.round(0));
        Check.same("its house", 3, post.rounded(0));
        Check.noSuch("no second house", () -> post.rounded(1));
        post.letter(0, 2);
        post.letter(1, 3);
        Check.same("a round to three", 20, post.round(0));
        for (int i = 0; i < 3; i++) {
            Check.same("of like rows the first: " + i, i + 1, post.rounded(i));
        }
        Check.noSuch("rounded(3)", () -> post.rounded(3));
        Check.noSuch("rounded(-1)", () -> post.rounded(-1));
        Check.noSuch("round(131)", () -> post.round(131));
        Check.noSuch("round(-1)", () -> post.round(-1));
        Check.same("the round that is kept", 3, post.rounded(2));
        Check.same("round(130)", 0, post.round(130));
        Check.noSuch("the round is another", () -> post.rounded(0));
        post.letter(1, 2399);
        Check.same("a round of day 100", 18, post.round(100));
        Check.same("its house", 2, post.rounded(0));
        post.image();
        post.round(0);
        post.restore();
        Check.same("the round behind restore()", 1, post.rounded(0));
    }

    /** Nine houses on a string: the walks along it are short, all others long. */
    private static void longRound() {
        int[] string = {0, 5, 3, 9, 1, 7, 2, 8, 4, 6};
        StringBuilder text = new StringBuilder("houses 10;");
        for (int house = 1; house < 10; house++) {
            text.append("person ").append(house).append(';');
        }
        for (int i = 0; i < 10; i++) {
            text.append("walk ").append(string[i]).append(' ').append(string[(i + 1) % 10]).append(" 2;");
        }
        TearsPost post = Check.city(text.toString());
        for (int person = 0; person < 9; person++) {
            post.weep(person, 0, 0);
            post.letter(person, 0);
        }
        Check.same("a round along the string", 20, post.round(0));
        for (int i = 1; i < 10; i++) {
            Check.same("along the string: " + i, string[i], post.rounded(i - 1));
        }
        TearsPost like = Check.city("houses 10;" + text.substring(10, text.indexOf("walk")));
        for (int person = 0; person < 9; person++) {
            like.weep(person, 0, 0);
            like.letter(person, 0);
        }
        Check.same("a round of like walks", 100, like.round(0));
        for (int i = 0; i < 9; i++) {
            Check.same("of like walks: " + i, i + 1, like.rounded(i));
        }
    }

    private static void holds() {
        TearsPost post = Check.city("houses 3;person 1 hired;person 2;rule grief<8;ask house=1;ask person=0;"
                + "ask grief=7 and hired=1 and day=2 and hour=9 and before=1;"
                + "ask person=99 and not grief and not hired and not day and not hour and not before;"
                + "ask person=1 and hired=0;ask 0;");
        post.weep(0, 56, 9);
        post.weep(0, 57, 7);
        post.weep(1, 99, 0);
        int[][] due = {{0, 1, 0}, {0, 1, 0}, {0, 1, 0}, {1, 0, 0}, {0, 0, 1}, {0, 0, 0}};
        for (int ask = 0; ask < 6; ask++) {
            for (int house = 0; house < 3; house++) {
                int got = post.holds(ask, house) ? 1 : 0;
                Check.same("holds(" + ask + ", " + house + ")", due[ask][house], got);
            }
        }
        Check.noSuch("holds(6, 0)", () -> post.holds(6, 0) ? 1 : 0);
        Check.noSuch("holds(-1, 0)", () -> post.holds(-1, 0) ? 1 : 0);
        Check.noSuch("holds(0, 3)", () -> post.holds(0, 3) ? 1 : 0);
        Check.noSuch("holds(0, -1)", () -> post.holds(0, -1) ? 1 : 0);
    }

    private static void stranger() {
        TearsPost post = Check.city("houses 4;ask 1;ask house<3;ask house<2;ask house=1 or house=3;");
        int[][] due = {
            {0, 0, -1}, {8, 0, -1}, {3, 1, 3}, {5, 1, 2}, {9, 1, 1}, {10, 1, 1}, {6, 1, 2}, {12, 1, 1},
            {15, 2, 2}, {7, 2, 2}, {11, 2, 1}, {14, 2, 1},
        };
        for (int[] row : due) {
            Check.same("stranger(" + row[0] + ", 0)", row[1], post.stranger(row[0], 0));
            Check.same("stranger(" + row[0] + ", 1)", row[2], post.stranger(row[0], 1));
        }
        Check.illegal("stranger(16, 0)", () -> post.stranger(16, 0));
        Check.illegal("stranger(17, 1)", () -> post.stranger(17, 1));
        Check.illegal("stranger(-1, 0)", () -> post.stranger(-1, 0));
        Check.illegal("stranger(least, 0)", () -> post.stranger(Integer.MIN_VALUE, 0));
        Check.noSuch("stranger(15, 2)", () -> post.stranger(15, 2));
        Check.noSuch("stranger(15, -1)", () -> post.stranger(15, -1));
        Check.noSuch("stranger(16, 2)", () -> post.stranger(16, 2));
        TearsPost blind = Check.city("houses 3;ask house=0;");
        Check.same("two that cannot be told apart", -1, blind.stranger(7, 0));
        Check.same("their first ask", -1, blind.stranger(6, 1));
        Check.same("two that can", 1, blind.stranger(5, 0));
    }

    /** Which ASK comes next hangs on the answers: five houses by three, of six ASKS that part few. */
    private static void strangerByTurns() {
        TearsPost post = Check.city("houses 10;ask house=9;ask house<4;ask house=0 or house=1;ask house=0 or house=2;"
                + "ask house=4 or house=5;ask house=4 or house=6;");
        Check.same("eight houses by turns", 3, post.stranger(255, 0));
        Check.same("their first ask", -1, post.stranger(0, 1));
        Check.same("the ask that halves them", 1, post.stranger(255, 1));
        Check.same("seven houses", 3, post.stranger(127, 0));
        Check.same("the least ask for seven", 1, post.stranger(127, 1));
        Check.same("nine houses with one that is apart", -1, post.stranger(511, 0));
        Check.same("nine houses with another", 4, post.stranger(255 + 512, 0));
        Check.same("the least ask for them", 0, post.stranger(255 + 512, 1));
        TearsPost now = Check.city("houses 2;person 0;ask person<50;");
        Check.same("ahead of tears", -1, now.stranger(3, 0));
        now.weep(0, 5, 0);
        Check.same("behind tears", 1, now.stranger(3, 0));
    }
}
