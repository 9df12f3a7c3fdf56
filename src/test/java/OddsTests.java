/** Promises 19 to 29: the register, wills, odds, dry houses, mourners, the image. */
public final class OddsTests {
    public static void main(String[] args) {
        write();
        clear();
        register();
        gap();
        will();
        last();
        nobody();
        behind();
        dry();
        mourner();
        image();
        imageKept();
        Check.finish("OddsTests");
    }

    private static void write() {
        TearsPost post = Check.city("person 0;person 0;");
        for (int i = 1; i <= 40; i++) {
            Check.same("write " + i, i, post.write(i & 1));
        }
        Check.same("write 41", -1, post.write(0));
        Check.same("the row's length", 40, post.count(6));
        Check.same("STATUS 3", 1, post.count(12));
        Check.noSuch("write(2)", () -> post.write(2));
        Check.noSuch("write(-1)", () -> post.write(-1));
        Check.same("STATUS 3 behind exceptions", 1, post.count(12));
    }

    private static void clear() {
        TearsPost post = Check.city("person 0;");
        Check.same("clear() of none", 0, post.clear());
        post.write(0);
        post.write(0);
        Check.same("clear() of two", 2, post.clear());
        Check.same("the row behind clear()", 0, post.count(6));
        Check.same("write behind clear()", 1, post.write(0));
    }

    private static void registerDue(TearsPost post, int day, int changes, int gap, int ones) {
        Check.same("register(" + day + ", 0)", changes, post.register(day, 0));
        Check.same("register(" + day + ", 1)", gap, post.register(day, 1));
        Check.same("register(" + day + ", 2)", ones, post.register(day, 2));
    }

    private static void register() {
        TearsPost post = Check.city("person 0;person 0;person 0;rule grief=0;");
        registerDue(post, 0, 0, 0, 0);
        int[] told = {0, 1, 2, 1};
        for (int i = 0; i < 4; i++) {
            post.weep(told[i], 24 + 6 * i, i);
        }
        post.weep(2, 48, 0);
        registerDue(post, 1, 4, 4, 4);
        registerDue(post, 2, 1, 1, 1);
        post.write(0);
        registerDue(post, 1, 3, 3, 4);
        registerDue(post, 2, 1, 0, 1);
        registerDue(post, 99, 1, 0, 0);
        post.write(2);
        post.write(1);
        registerDue(post, 1, 1, 1, 4);
        registerDue(post, 2, 2, 0, 1);
        post.write(2);
        registerDue(post, 1, 2, 1, 4);
        post.write(2);
        registerDue(post, 1, 2, 0, 4);
        Check.noSuch("register(100, 0)", () -> post.register(100, 0));
        Check.noSuch("register(-1, 0)", () -> post.register(-1, 0));
        Check.noSuch("register(0, 3)", () -> post.register(0, 3));
        Check.noSuch("register(0, -1)", () -> post.register(0, -1));
    }

    /** The row 0 1 beside the TRUE 1 2: two in place of two, or one put in and one left out. */
    private static void gap() {
        TearsPost post = Check.city("person 0;person 0;person 0;");
        post.weep(1, 0, 0);
        post.weep(2, 0, 0);
        post.write(0);
        post.write(1);
        registerDue(post, 0, 2, 1, 2);
        TearsPost many = Check.city("person 0;person 0;");
        for (int i = 0; i < 200; i++) {
            many.weep(0, 5, 0);
        }
        registerDue(many, 0, 200, 200, 200);
        for (int i = 0; i < 40; i++) {
            many.write(1);
        }
        registerDue(many, 0, 200, 160, 200);
        registerDue(many, 1, 40, 0, 0);
    }

    private static void will() {
        TearsPost post = Check.city("houses 3;person 0;person 0;person 2;");
        post.weep(0, 10, 0);
        post.weep(1, 20, 0);
        post.weep(0, 30, 0);
        post.weep(0, 30, 0);
        post.move(0, 1);
        post.weep(0, 50, 0);
        int[][] due = {
            {0, 0, 0, 9, 0}, {0, 0, 0, 10, 1}, {0, 0, 10, 10, 1}, {0, 0, 10, 19, 10}, {0, 0, 10, 20, 10},
            {0, 0, 20, 29, 0}, {1, 0, 20, 29, 10}, {1, 0, 0, 2399, 10}, {0, 0, 0, 30, 11}, {0, 0, 15, 35, 11},
            {0, 0, 0, 2399, 2380}, {0, 1, 0, 2399, 2350}, {0, 1, 2399, 2399, 1}, {0, 2, 0, 2399, 0},
            {2, 0, 0, 2399, 0}, {0, 0, 2398, 2399, 2},
        };
        for (int[] row : due) {
            Check.same("will(" + row[0] + ", " + row[1] + ", " + row[2] + ", " + row[3] + ", 0)", row[4],
                    post.will(row[0], row[1], row[2], row[3], 0));
        }
        Check.same("odds of one of two", 503, post.will(0, 0, 0, 2399, 1));
        Check.same("odds of the other", 496, post.will(0, 1, 0, 2399, 1));
        Check.same("odds of a house that never was", 0, post.will(0, 2, 0, 2399, 1));
        Check.same("odds of none", 0, post.will(2, 0, 0, 2399, 1));
        Check.same("odds of one alone", 1000, post.will(1, 0, 0, 2399, 1));
        Check.illegal("from above to", () -> post.will(0, 0, 1, 0, 0));
        Check.illegal("from above to, odds", () -> post.will(0, 0, 2399, 0, 1));
        Check.noSuch("no such person", () -> post.will(3, 0, 1, 0, 0));
        Check.noSuch("no such person", () -> post.will(-1, 0, 0, 0, 0));
        Check.noSuch("no such house", () -> post.will(0, 3, 1, 0, 0));
        Check.noSuch("no such house", () -> post.will(0, -1, 0, 0, 0));
        Check.noSuch("no such from", () -> post.will(0, 0, 2400, 0, 0));
        Check.noSuch("no such from", () -> post.will(0, 0, -1, 0, 0));
        Check.noSuch("no such to", () -> post.will(0, 0, 0, 2400, 0));
        Check.noSuch("no such to", () -> post.will(0, 0, 0, -1, 0));
        Check.noSuch("no such what", () -> post.will(0, 0, 1, 0, 2));
        Check.noSuch("no such what", () -> post.will(0, 0, 0, 0, -1));
    }

    private static void last() {
        TearsPost post = Check.city("houses 4;person 0 chance 500;person 0 chance 250;person 0 chance 1000 hired;"
                + "person 1 chance 333;person 2 chance 0;person 3 chance 1000;person 3 chance 0;");
        int[] due = {229166, 104166, 666666, 333000, 0, 1000000, 0};
        for (int person = 0; person < 7; person++) {
            Check.same("last(" + person + ")", due[person], post.last(person));
        }
        post.move(3, 3);
        Check.same("last(3) behind a move", 166500, post.last(3));
        Check.same("last(5) behind a move", 667000 + 166500, post.last(5));
        Check.noSuch("last(7)", () -> post.last(7));
        Check.noSuch("last(-1)", () -> post.last(-1));
        TearsPost full = Check.city("person 0 chance 1000;".repeat(16));
        Check.same("last(15) of sixteen", 62500, full.last(15));
        TearsPost cut = Check.city("person 0 chance 1;person 0 chance 7;person 0 chance 13;person 0 chance 999;");
        Check.same("last(0) cut down", cutDown(new int[] {7, 13, 999}, 1), cut.last(0));
        Check.same("last(3) cut down", cutDown(new int[] {1, 7, 13}, 999), cut.last(3));
    }

    /** LAST as the document tells it, step by step. */
    private static int cutDown(int[] others, int chance) {
        int[] numbers = new int[others.length + 1];
        numbers[0] = 1000000;
        for (int other : others) {
            int[] become = new int[numbers.length];
            for (int i = 0; i < numbers.length; i++) {
                become[i] = (numbers[i] * (1000 - other) + (i > 0 ? numbers[i - 1] : 0) * other) / 1000;
            }
            numbers = become;
        }
        int together = 0;
        for (int i = 0; i < numbers.length; i++) {
            together += numbers[i] * chance / 1000 / (i + 1);
        }
        return together;
    }

    private static void nobody() {
        TearsPost post = Check.city("houses 4;person 0 chance 500;person 0 chance 250 hired;person 1 chance 1000;"
                + "person 2 chance 1;person 2 chance 999;person 2 chance 999;");
        Check.same("nobody(0)", 375000, post.nobody(0));
        Check.same("nobody(1)", 0, post.nobody(1));
        Check.same("nobody(2), cut down", 0, post.nobody(2));
        Check.same("nobody(3) without people", 1000000, post.nobody(3));
        post.move(5, 3);
        Check.same("nobody(2) behind a move", 999, post.nobody(2));
        Check.same("nobody(3) behind a move", 1000, post.nobody(3));
        Check.noSuch("nobody(4)", () -> post.nobody(4));
        Check.noSuch("nobody(-1)", () -> post.nobody(-1));
    }

    private static void behind() {
        TearsPost post = Check.city("houses 3;person 0 chance 500;person 0 chance 250;person 1 chance 100;");
        post.weep(0, 9, 0);
        post.weep(2, 10, 0);
        post.move(2, 2);
        Check.same("the name, sure", 1000000, post.behind(0, 0, 0));
        Check.same("not the name", 0, post.behind(0, 1, 0));
        Check.same("has no name", 0, post.behind(0, -1, 0));
        Check.same("the name behind one day", 375000 + 437500, post.behind(0, 0, 1));
        Check.same("the other behind one day", 187500, post.behind(0, 1, 1));
        Check.same("the name behind two days", 304687 + 437500, post.behind(0, 0, 2));
        Check.same("no name behind a hundred days", 0, post.behind(0, -1, 100));
        Check.same("one who moved away", 1000000, post.behind(1, 2, 100));
        Check.same("a house of one who does not live there", 0, post.behind(2, 0, 5));
        Check.same("no name, sure", 1000000, post.behind(2, -1, 0));
        Check.same("no name behind two days", 810000, post.behind(2, -1, 2));
        Check.same("one who moved in", 190000, post.behind(2, 2, 2));
        Check.illegal("days of 101", () -> post.behind(0, 0, 101));
        Check.illegal("days of -1", () -> post.behind(0, 0, -1));
        Check.noSuch("no such house", () -> post.behind(3, 0, 101));
        Check.noSuch("no such house", () -> post.behind(-1, 0, 0));
        Check.noSuch("no such person", () -> post.behind(0, 3, 101));
        Check.noSuch("no such person", () -> post.behind(0, -2, 0));
    }

    private static void dry() {
        TearsPost post = Check.city("houses 4;person 0;person 1;person 2;rule grief=0;");
        Check.same("dry(1) without tears", 15, post.dry(1));
        post.weep(0, 100, 0);
        Check.same("dry(1) by one", 14, post.dry(1));
        post.weep(1, 123, 0);
        Check.same("dry(1) by two", 12, post.dry(1));
        post.weep(2, 124, 1);
        Check.same("dry(1) at the edge", 13, post.dry(1));
        Check.same("dry(2)", 12, post.dry(2));
        Check.same("dry(99)", 12, post.dry(99));
        Check.illegal("dry(0)", () -> post.dry(0));
        Check.illegal("dry(100)", () -> post.dry(100));
        Check.illegal("dry(-1)", () -> post.dry(-1));
        Check.illegal("dry(least)", () -> post.dry(Integer.MIN_VALUE));
    }

    private static void mourner() {
        TearsPost post = Check.city("houses 3;person 0;person 1;person 2;rule not (person=99 and house=2 and before=3);"
                + "rule not (hired and hour=9);");
        Check.same("a mourner without names", 0, post.mourner(0));
        post.weep(0, 1, 0);
        Check.same("a mourner where the one name is", -1, post.mourner(0));
        Check.same("a mourner elsewhere", 0, post.mourner(1));
        post.move(0, 1);
        post.weep(0, 2, 0);
        Check.same("a mourner at one of two", 1, post.mourner(0));
        Check.same("a mourner at the other of two", 1, post.mourner(1));
        Check.same("a mourner at a third", 0, post.mourner(2));
        post.move(0, 2);
        post.weep(0, 3, 0);
        Check.same("a mourner at one of three", 0, post.mourner(0));
        post.weep(2, 4, 0);
        Check.same("a mourner by 'before' of two", -1, post.mourner(2));
        post.weep(2, 5, 0);
        Check.same("a mourner by 'before' of three", 0, post.mourner(2));
        Check.same("a mourner where there is no such rule", 1, post.mourner(0));
        post.weep(1, 9, 0);
        Check.same("a mourner at an hour that does not count", 0, post.mourner(0));
        Check.same("tears behind mourners", 6, post.count(4));
        Check.same("the name behind mourners", 0, post.name(0, 9));
        Check.noSuch("mourner(3)", () -> post.mourner(3));
        Check.noSuch("mourner(-1)", () -> post.mourner(-1));
        TearsPost griefless = Check.city("person 0;rule grief=0 and (person=99)=hired and day=2 and hour=1;");
        griefless.weep(0, 49, 0);
        Check.same("a mourner of grief 0 by day and hour", -1, griefless.mourner(0));
    }

    private static void image() {
        TearsPost post = Check.city("houses 2;person 0;person 1;");
        Check.same("restore() without an image", 0, post.restore() ? 1 : 0);
        post.weep(0, 5, 0);
        post.weep(0, 2, 0);
        post.letter(0, 7);
        post.write(1);
        post.image();
        post.move(0, 1);
        post.weep(1, 30, 3);
        post.weep(1, 3, 3);
        post.letter(1, 8);
        post.clear();
        post.write(0);
        post.write(0);
        Check.tell(post, "z");
        Check.feed(post, "houses");
        Check.same("restore()", 1, post.restore() ? 1 : 0);
        int[] due = {2, 2, 0, 0, 1, 1, 1, 20, 5, 0, 1, 0, 0};
        for (int what = 0; what < due.length; what++) {
            Check.same("count(" + what + ") of the image", due[what], post.count(what));
        }
        Check.same("who lives where", 0, post.person(0, 0));
        Check.same("the tears' hour", 5, post.tears(0, 2));
        Check.same("the letter", 7, post.post(0, 1));
        Check.same("the register", 1, post.register(0, 0));
        Check.same("the fault's place stays", 0, post.fault());
    }

    private static void imageKept() {
        TearsPost post = Check.city("houses 2;person 0;person 1;");
        post.weep(0, 5, 0);
        post.image();
        post.restore();
        post.weep(1, 6, 0);
        Check.same("restore() once more", 1, post.restore() ? 1 : 0);
        Check.same("TEARS behind it", 1, post.count(4));
        post.weep(1, 7, 1);
        post.image();
        post.weep(0, 8, 2);
        post.restore();
        Check.same("TEARS of the other image", 2, post.count(4));
        Check.same("its tears", 7, post.tears(1, 2));
        Check.tell(post, "houses 2;");
        Check.same("restore() behind a city", 0, post.restore() ? 1 : 0);
    }
}
