/** Promises 9 to 12: tears, whether they count, and the names of houses. */
public final class TearsTests {
    public static void main(String[] args) {
        weep();
        weepRefused();
        tears();
        valuesOfTears();
        name();
        houses();
        Check.finish("TearsTests");
    }

    private static void weep() {
        TearsPost post = Check.city("person 0;person 0 hired;");
        Check.same("the first tears", 1, post.weep(0, 0, 0));
        Check.same("tears of the like hour", 2, post.weep(1, 0, 9));
        Check.same("tears of the last hour", 3, post.weep(0, 2399, 5));
        Check.same("NOW", 2399, post.count(8));
        for (int i = 4; i <= 200; i++) {
            Check.same("tears " + i, i, post.weep(i & 1, 2399, i % 10));
        }
        Check.same("tears 201", -1, post.weep(0, 2399, 0));
        Check.same("tears told", 200, post.count(4));
        Check.same("STATUS 1", 1, post.count(10));
    }

    private static void weepRefused() {
        TearsPost post = Check.city("person 0;");
        Check.same("an hour below 0", -1, post.weep(0, -1, 0));
        Check.same("an hour above 2399", -1, post.weep(0, 2400, 0));
        Check.same("a grief of 10", -1, post.weep(0, 0, 10));
        Check.same("a grief of -1", -1, post.weep(0, 0, -1));
        post.weep(0, 50, 0);
        Check.same("an hour below NOW", -1, post.weep(0, 49, 0));
        Check.same("the hour NOW", 2, post.weep(0, 50, 0));
        Check.same("the least hour", -1, post.weep(0, Integer.MIN_VALUE, 0));
        Check.same("the greatest hour", -1, post.weep(0, Integer.MAX_VALUE, 0));
        Check.noSuch("weep(1, 50, 0)", () -> post.weep(1, 50, 0));
        Check.noSuch("weep(-1, 50, 0)", () -> post.weep(-1, 50, 0));
        Check.noSuch("weep(1, 0, 10)", () -> post.weep(1, 0, 10));
        Check.same("STATUS 1", 7, post.count(10));
        Check.same("TEARS", 2, post.count(4));
        Check.same("STATUS 0", 0, post.count(9));
        Check.same("STATUS 2", 0, post.count(11));
    }

    private static void tears() {
        TearsPost post = Check.city("houses 2;person 1;person 0;rule grief<5;");
        post.weep(0, 47, 3);
        post.weep(1, 47, 5);
        post.move(1, 1);
        post.weep(1, 47, 9);
        post.weep(0, 48, 0);
        int[][] due = {{0, 1, 47, 3, 0, 1}, {1, 0, 47, 5, 0, 0}, {1, 1, 47, 9, 1, 0}, {0, 1, 48, 0, 0, 1}};
        for (int i = 0; i < 4; i++) {
            for (int what = 0; what < 6; what++) {
                Check.same("tears(" + i + ", " + what + ")", due[i][what], post.tears(i, what));
            }
        }
        Check.noSuch("tears(4, 0)", () -> post.tears(4, 0));
        Check.noSuch("tears(-1, 0)", () -> post.tears(-1, 0));
        Check.noSuch("tears(0, 6)", () -> post.tears(0, 6));
        Check.noSuch("tears(0, -1)", () -> post.tears(0, -1));
    }

    /** Whether tears count by a rule that is just one value beside one number. */
    private static void countBy(String rule, int due) {
        TearsPost post = Check.city("houses 3;person 0;person 2;person 2 hired;rule " + rule + ";");
        post.weep(0, 55, 1);
        post.weep(1, 56, 1);
        post.weep(1, 57, 1);
        post.weep(2, 58, 4);
        Check.same("tears that count by " + rule, due, post.tears(3, 5));
    }

    private static void valuesOfTears() {
        String[] holding = {"house=2", "person=2", "grief=4", "hired=1", "day=2", "hour=10", "before=2"};
        for (String rule : holding) {
            countBy(rule, 1);
            countBy("not " + rule, 0);
        }
        TearsPost post = Check.city("person 0;person 0 hired;rule hired=0;rule grief;");
        post.weep(0, 0, 1);
        post.weep(1, 0, 1);
        post.weep(0, 0, 0);
        post.weep(1, 0, 0);
        Check.same("both rules hold", 1, post.tears(0, 5));
        Check.same("the first rule fails", 0, post.tears(1, 5));
        Check.same("the second rule fails", 0, post.tears(2, 5));
        Check.same("both rules fail", 0, post.tears(3, 5));
        Check.same("'before' counts those that do not count", 3, post.tears(3, 4));
    }

    private static void name() {
        TearsPost post = Check.city("houses 2;person 0;person 0;person 0;rule grief<5;");
        post.weep(0, 10, 0);
        post.weep(1, 20, 0);
        post.weep(2, 20, 0);
        post.weep(0, 20, 5);
        post.weep(1, 2000, 0);
        Check.same("name ahead of all", -1, post.name(0, 9));
        Check.same("name at the hour", 0, post.name(0, 10));
        Check.same("name behind the hour", 0, post.name(0, 19));
        Check.same("name by the later told of like hours", 2, post.name(0, 20));
        Check.same("name of the last hour ahead", 2, post.name(0, 1999));
        Check.same("name at NOW", 1, post.name(0, 2000));
        Check.same("name above NOW", 1, post.name(0, 2399));
        Check.same("name of a house without", -1, post.name(1, 2399));
        post.move(1, 1);
        Check.same("name behind a move", 1, post.name(0, 2000));
        post.weep(1, 2000, 1);
        Check.same("name of his new house", 1, post.name(1, 2000));
        Check.same("name of his old house", 1, post.name(0, 2000));
        Check.noSuch("name(2, 0)", () -> post.name(2, 0));
        Check.noSuch("name(-1, 0)", () -> post.name(-1, 0));
        Check.noSuch("name(0, -1)", () -> post.name(0, -1));
        Check.noSuch("name(0, 2400)", () -> post.name(0, 2400));
    }

    private static void houses() {
        TearsPost post = Check.city("houses 10;person 9;person 4;");
        post.weep(0, 5, 0);
        post.move(0, 0);
        post.weep(0, 6, 0);
        post.weep(1, 7, 0);
        Check.same("houses ahead", 0, post.houses(0, 4));
        Check.same("houses of one", 512, post.houses(0, 5));
        Check.same("houses of two", 513, post.houses(0, 6));
        Check.same("houses of another, not yet", 0, post.houses(1, 6));
        Check.same("houses of another", 16, post.houses(1, 2399));
        Check.noSuch("houses(2, 0)", () -> post.houses(2, 0));
        Check.noSuch("houses(-1, 0)", () -> post.houses(-1, 0));
        Check.noSuch("houses(0, 2400)", () -> post.houses(0, 2400));
        Check.noSuch("houses(0, -1)", () -> post.houses(0, -1));
    }
}
