/** Promises 1 to 8: the new object, the tape, the text, and what a city is asked. */
public final class CityTests {
    public static void main(String[] args) {
        newObject();
        feed();
        textsWithoutFault();
        faultsOfClauses();
        faultsOfExprs();
        faultsOfTooMuch();
        exprValues();
        whatACityLeaves();
        fault();
        count();
        person();
        walk();
        move();
        Check.finish("CityTests");
    }

    private static void newObject() {
        Check.same("NONE", -1, TearsPost.NONE);
        TearsPost post = new TearsPost();
        Check.same("HOUSES of a new object", 1, post.count(0));
        for (int what = 1; what <= 12; what++) {
            Check.same("count(" + what + ") of a new object", 0, post.count(what));
        }
        Check.same("fault() of a new object", -1, post.fault());
        Check.same("walk(0, 0) of a new object", 0, post.walk(0, 0));
        Check.noSuch("walk(0, 1) of a new object", () -> post.walk(0, 1));
        Check.noSuch("person(0, 0) of a new object", () -> post.person(0, 0));
        Check.noSuch("rounded(0) of a new object", () -> post.rounded(0));
        Check.same("restore() of a new object", 0, post.restore() ? 1 : 0);
        Check.same("round(0) of a new object", 0, post.round(0));
        Check.same("register(0, 0) of a new object", 0, post.register(0, 0));
        Check.noSuch("holds(0, 0) of a new object", () -> post.holds(0, 0) ? 1 : 0);
        Check.same("stranger(1, 0) of a new object", 0, post.stranger(1, 0));
        Check.same("clear() of a new object", 0, post.clear());
    }

    private static void feed() {
        TearsPost post = new TearsPost();
        Check.same("the first feed", 20, post.feed(0x686f7573, 0x65732037, 0x3b206173, 0x6b20313b, 0x20202020));
        Check.same("city of the bytes, highest first", 0, post.city(16));
        Check.same("HOUSES of the bytes", 7, post.count(0));
        Check.same("ASKS of the bytes", 1, post.count(3));
        for (int i = 1; i <= 35; i++) {
            Check.same("feed " + i, 20 * i, post.feed(0x20202020, 0x20202020, 0x20202020, 0x20202020, 0x20202020));
        }
        Check.same("a feed above 700", -1, post.feed(0x41414141, 0, 0, 0, -1));
        Check.same("the tape behind it", 700, post.count(7));
        Check.same("STATUS 0 behind it", 0, post.count(9));
        Check.same("a city of 700 blanks", 0, post.city(700));
        Check.same("the tape behind the city", 0, post.count(7));
        Check.same("a feed of high bytes", 20, post.feed(-1, -1, -1, -1, -1));
        Check.same("a city of byte 255", 1, post.city(1));
        Check.feed(post, "houses 2;           person 1;");
        Check.same("city of two feeds", 0, post.city(29));
        Check.same("the house of two feeds", 1, post.person(0, 0));
    }

    private static void textsWithoutFault() {
        String[] texts = {
            "", " \n ", "houses 1;", "houses 10;", "houses 0010;", "houses3;person2;walk0 2 99;",
            "\nhouses\n3 ;person\n2\nchance\n1000\nhired\n;", "person 0;", "person 0 chance 0;",
            "person 0 chance 0000;", "person 0 hired;", "person 0 chance 7 hired;", "houses 2;walk 1 0 1;",
            "houses 2;walk 1 0 1;walk 0 1 99;", "rule 1;", "rule 9999;", "rule 0000;", "ask(1);",
            "rule house+person-grief*hired/day<hour+before;",
            "rule not not not not not not 1;", "rule (((((1)))));", "ask (((((1)))));", "rule (((((not not not not not not 1)))));",
            "rule not(not not not not not not 1);", "rule (1<2)<3;", "rule (1=2)=3;", "rule 1<2 and 2<3 or 3=4;",
            "rule 1*(2)/3+(4-5);", "rule not 1<2;", "rule not house;ask not person;",
            "person 0;".repeat(16), "rule 1;".repeat(4), "ask 1;".repeat(6),
            "rule " + "1+".repeat(346) + "1;", "rule (((((1)+(1))+(1))+(1))+(1));",
        };
        for (String text : texts) {
            TearsPost post = new TearsPost();
            Check.same("city '" + text + "'", 0, Check.tell(post, text));
            Check.same("fault() of '" + text + "'", -1, post.fault());
            Check.same("STATUS of '" + text + "'", 0, post.count(9));
        }
    }

    private static void faultAt(String text, int fault, int place) {
        TearsPost post = new TearsPost();
        Check.same("city '" + text + "'", fault, Check.tell(post, text));
        Check.same("fault() of '" + text + "'", place, post.fault());
        Check.same("STATUS of '" + text + "'", 1, post.count(9));
        Check.same("the tape behind '" + text + "'", 0, post.count(7));
    }

    private static void faultsOfClauses() {
        faultAt("x", 1, 0);
        faultAt("  x", 1, 2);
        faultAt(";", 1, 0);
        faultAt("houses 1;;", 1, 9);
        faultAt("12345", 1, 0);
        faultAt("Houses 1;", 1, 0);
        faultAt("houSes 1;", 1, 0);
        faultAt("housess 1;", 1, 0);
        faultAt("house 1;", 1, 0);
        faultAt("houses 1;\t", 1, 9);
        faultAt("houses 1;\r", 1, 9);
        faultAt("houses 1;\u00e9", 1, 9);
        faultAt("houses 1;\0", 1, 9);
        faultAt("houses.1;", 1, 6);
        faultAt("houses", 1, 6);
        faultAt("houses  ", 1, 8);
        faultAt("houses;", 1, 6);
        faultAt("houses x", 1, 7);
        faultAt("houses 1", 1, 8);
        faultAt("houses 1 \n", 1, 10);
        faultAt("houses 1 2;", 1, 9);
        faultAt("houses 0;", 2, 7);
        faultAt("houses 11;", 2, 7);
        faultAt("houses 00001;", 2, 7);
        faultAt("houses 99999999999;", 2, 7);
        faultAt("houses 11 x", 2, 7);
        faultAt("houses 2;houses 2;", 5, 9);
        faultAt("person 0; houses 2;", 5, 10);
        faultAt("ask 1;houses", 5, 6);
        faultAt("person 0 houses 2;", 1, 9);
        faultAt("person;", 1, 6);
        faultAt("person hired;", 1, 7);
        faultAt("person 1;", 3, 7);
        faultAt("houses 10;person 10;", 3, 17);
        faultAt("person 9999;", 3, 7);
        faultAt("person 10000;", 2, 7);
        faultAt("person 00000;", 2, 7);
        faultAt("person 0 0;", 1, 9);
        faultAt("person 0 chance;", 1, 15);
        faultAt("person 0 chance 1001;", 2, 16);
        faultAt("person 0 chance 00100;", 2, 16);
        faultAt("person 0 chance hired;", 1, 16);
        faultAt("person 0 hired chance 5;", 1, 15);
        faultAt("person 0 hired hired;", 1, 15);
        faultAt("person 0 chance 5 chance 5;", 1, 18);
        faultAt("person 0 hired", 1, 14);
        faultAt("person 0-1;", 1, 8);
        faultAt("walk 0 0 5;", 4, 7);
        faultAt("walk 1 1 5;", 3, 5);
        faultAt("houses 3;walk 1 1 0;", 4, 16);
        faultAt("houses 3;walk 1 01 5;", 4, 16);
        faultAt("houses 3;walk 0 3 0;", 3, 16);
        faultAt("houses 3;walk 0 00001 0;", 2, 16);
        faultAt("houses 3;walk 0 1 0;", 2, 18);
        faultAt("houses 3;walk 0 1 100;", 2, 18);
        faultAt("houses 3;walk 0 1;", 1, 17);
        faultAt("houses 3;walk 0 x 1;", 1, 16);
        faultAt("houses 3;walk;", 1, 13);
        faultAt("person 0 x;", 1, 9);
        faultAt("person 0 chanc 5;", 1, 9);
        faultAt("xerson 0;", 1, 0);
        faultAt("persons 0;", 1, 0);
        faultAt("tules 1;", 1, 0);
        faultAt("chance 5;", 1, 0);
        faultAt("hired;", 1, 0);
        faultAt("not;", 1, 0);
    }

    private static void faultsOfExprs() {
        faultAt("rule;", 1, 4);
        faultAt("rule", 1, 4);
        faultAt("rule ", 1, 5);
        faultAt("rule x;", 3, 5);
        faultAt("rule houses;", 3, 5);
        faultAt("rule z;", 3, 5);
        faultAt("rule az;", 3, 5);
        faultAt("rule {;", 1, 5);
        faultAt("rule `;", 1, 5);
        faultAt("rule 1:;", 1, 6);
        faultAt("rule 1,;", 1, 6);
        faultAt("rule rule;", 3, 5);
        faultAt("rule and 1;", 3, 5);
        faultAt("rule or;", 3, 5);
        faultAt("rule chance = 1;", 3, 5);
        faultAt("rule 1+not 1;", 3, 7);
        faultAt("rule 1<not 1;", 3, 7);
        faultAt("rule 1*x;", 3, 7);
        faultAt("rule (x);", 3, 6);
        faultAt("rule not x;", 3, 9);
        faultAt("rule 1 and x;", 3, 11);
        faultAt("rule 1 or or;", 3, 10);
        faultAt("rule not;", 1, 8);
        faultAt("rule 1 and;", 1, 10);
        faultAt("rule 1 not 1;", 1, 7);
        faultAt("rule 1 x;", 1, 7);
        faultAt("rule 1 2;", 1, 7);
        faultAt("rule 1 22222;", 1, 7);
        faultAt("rule 22222;", 2, 5);
        faultAt("rule 1+00000;", 2, 7);
        faultAt("rule house person;", 1, 11);
        faultAt("rule house(1);", 1, 10);
        faultAt("rule 1<2<3;", 1, 8);
        faultAt("rule 1=2=3;", 1, 8);
        faultAt("rule 1<2=3;", 1, 8);
        faultAt("rule not 1<2<3;", 1, 12);
        faultAt("rule -1;", 1, 5);
        faultAt("rule 1--1;", 1, 7);
        faultAt("rule ();", 1, 6);
        faultAt("rule (1;", 1, 7);
        faultAt("rule (1", 1, 7);
        faultAt("rule (1));", 1, 8);
        faultAt("rule 1>2;", 1, 6);
        faultAt("rule =1;", 1, 5);
        faultAt("rule 1", 1, 6);
        faultAt("rule 1 ", 1, 7);
        faultAt("ask;", 1, 3);
        faultAt("ask tears;", 3, 4);
        faultAt("ask 1 ask 2;", 1, 6);
    }

    private static void faultsOfTooMuch() {
        faultAt("person 0;".repeat(16) + "person", 2, 144);
        faultAt("rule 1;".repeat(4) + " rule x;", 2, 29);
        faultAt("ask 1;".repeat(6) + "ask", 2, 36);
        faultAt("rule not not not not not not not 1;", 2, 29);
        faultAt("rule not not not not not not not not not 1;", 2, 29);
        faultAt("rule 1 and not not not not not not not", 2, 35);
        faultAt("rule ((((((1))))));", 2, 11);
        faultAt("ask ((((((1))))));", 2, 10);
        faultAt("rule ((((((house))))));", 2, 11);
        faultAt("rule ((((((x))))));", 2, 11);
        faultAt("rule ((((((not 1))))));", 2, 11);
        faultAt("rule ((((((and", 2, 11);
        faultAt("rule ((((((12345", 2, 11);
        faultAt("rule ((((((( ", 2, 11);
        faultAt("rule (((((( (", 2, 12);
        faultAt("rule (((((()", 1, 11);
        faultAt("rule ((((((;", 1, 11);
        faultAt("rule ((((((+", 1, 11);
        faultAt("rule ((((((!", 1, 11);
        faultAt("rule ((((((", 1, 11);
        faultAt("rule (1+(1+(1+(1+(1+(1", 2, 21);
        faultAt("rule (((((1)))))+((((((1", 2, 23);
    }

    private static void holdsOf(String expr, int due) {
        TearsPost post = Check.city("person 0;rule " + expr + ";ask " + expr + ";");
        post.weep(0, 0, 0);
        Check.same("rule " + expr, due, post.tears(0, 5));
        Check.same("ask " + expr, due, post.holds(0, 0) ? 1 : 0);
    }

    private static void exprValues() {
        String[] holding = {
            "1", "7", "0-1", "2+3*4=14", "(2+3)*4=20", "10-3-2=5", "20/3/2=3", "20/3*2=12", "7-2+1=6",
            "7/0=0", "0/0=0", "(0-7)/2=0-3", "7/(0-2)=0-3", "(0-7)/(0-2)=3", "9999*9999*9999<0",
            "8192*8192*32<0", "8192*8192*32/(0-1)=8192*8192*32", "8192*8192*32-1=2147*1000*1000+483*1000+647",
            "not 0", "not 5=4", "not not 7=7", "(not not 7)=1", "(not 7)=0", "2 and 4=4", "(2 and 4)=1",
            "(0 or 7)=1", "(3)=3", "1 or 0 and 0", "not 0 and 1", "not (1 and 0)", "1 or 1 and 0", "(1<2)=1",
            "(2<1)=0", "(2<2)=0", "(3=3)=1", "0-5<5", "not not not not not not 3", "(1 and 1 and 5)=1",
            "(0 or 0 or 5)=1", "house=0", "person=0 or person=99", "not not not 0", "1<2 and 2<3",
        };
        for (String expr : holding) {
            holdsOf(expr, 1);
        }
        String[] failing = {
            "0", "1-1", "not 1", "1 and 0", "0 or 0", "0 and 1 or 0", "(0 or 1) and 0", "3<2", "3<3", "3=2",
            "1/2", "5/0", "not not 0", "not 1 or 0", "0 and 1", "2 and 0", "not 7", "(1<2)=2", "(2 and 4)=4",
        };
        for (String expr : failing) {
            holdsOf(expr, 0);
        }
    }

    private static void whatACityLeaves() {
        TearsPost post = Check.city("houses 2;person 0;person 1 hired;walk 0 1 7;rule 1;ask 1;");
        post.weep(0, 30, 1);
        post.weep(1, 2, 1);
        post.weep(1, 31, 1);
        post.letter(1, 40);
        post.write(0);
        post.move(0, 1);
        post.image();
        Check.same("a round", 14, post.round(2));
        Check.same("a city with a fault", 1, Check.tell(post, "houses 3;person 2;y"));
        int[] due = {2, 2, 1, 1, 2, 1, 1, 0, 31, 1, 1, 0, 0};
        for (int what = 0; what < due.length; what++) {
            Check.same("count(" + what + ") behind a fault", due[what], post.count(what));
        }
        Check.same("a home behind a fault", 1, post.person(0, 0));
        Check.same("one who is hired behind a fault", 1, post.person(1, 2));
        Check.same("a walk behind a fault", 7, post.walk(0, 1));
        Check.same("the round behind a fault", 1, post.rounded(0));
        Check.same("the image behind a fault", 1, post.restore() ? 1 : 0);
        Check.tell(post, "x");
        Check.same("a city without a fault", 0, Check.tell(post, "houses 3;person 2;"));
        int[] anew = {3, 1, 0, 0, 0, 0, 0, 0, 0, 1, 1, 0, 0};
        for (int what = 0; what < anew.length; what++) {
            Check.same("count(" + what + ") of a city anew", anew[what], post.count(what));
        }
        Check.same("a home of a city anew", 2, post.person(0, 0));
        Check.same("a walk of a city anew", 10, post.walk(0, 1));
        Check.noSuch("the round of a city anew", () -> post.rounded(0));
        Check.same("the image of a city anew", 0, post.restore() ? 1 : 0);
        Check.same("the empty city", 0, post.city(0));
        Check.same("HOUSES of the empty city", 1, post.count(0));
        Check.same("PEOPLE of the empty city", 0, post.count(1));
        for (int i = 0; i < 4; i++) {
            Check.tell(post, "person 0;rule grief;rule 1;ask hour=5;");
            Check.same("RULES told again", 2, post.count(2));
            Check.same("ASKS told again", 1, post.count(3));
            post.weep(0, 5, i & 1);
            Check.same("a rule told again", i & 1, post.tears(0, 5));
            Check.same("an ask told again", i & 1, post.holds(0, 0) ? 1 : 0);
            Check.tell(post, "person 0;rule 0;rule 0;rule 0;ask 0;ask 0;ask 0;ask 0;ask 0;ask 0;walk");
        }
        wrongCities();
    }

    private static void wrongCities() {
        TearsPost post = Check.city("houses 4;person 3;");
        Check.feed(post, "houses 2;");
        Check.illegal("city(21)", () -> post.city(21));
        Check.illegal("city(-1)", () -> post.city(-1));
        Check.illegal("city(least)", () -> post.city(Integer.MIN_VALUE));
        Check.illegal("city(greatest)", () -> post.city(Integer.MAX_VALUE));
        Check.same("the tape behind city(21)", 20, post.count(7));
        Check.same("HOUSES behind city(21)", 4, post.count(0));
        Check.same("STATUS behind city(21)", 0, post.count(9));
        Check.same("a city of fewer bytes", 1, post.city(8));
        Check.same("the tape behind fewer bytes", 0, post.count(7));
        Check.same("its fault", 8, post.fault());
        Check.illegal("city(1) of an empty tape", () -> post.city(1));
        Check.same("the fault behind an exception", 8, post.fault());
    }

    private static void fault() {
        TearsPost post = Check.city("houses 4;");
        Check.same("fault() without", -1, post.fault());
        Check.tell(post, "person 4;");
        Check.same("fault() of a fault", 7, post.fault());
        Check.tell(post, "walk 0 0 1;");
        Check.same("fault() of the latest", 7, post.fault());
        Check.tell(post, "houses 4;");
        Check.same("fault() behind one without", -1, post.fault());
    }

    private static void count() {
        TearsPost post = Check.city("houses 3;person 0;person 1;rule 1;rule 1;rule 1;ask 1;ask 1;ask 1;ask 1;");
        post.weep(0, 100, 0);
        post.weep(0, 99, 0);
        post.weep(0, 101, 0);
        post.weep(0, 101, 0);
        post.letter(0, 0);
        post.write(1);
        post.write(1);
        Check.feed(post, "x");
        int[] due = {3, 2, 3, 4, 3, 1, 2, 20, 101, 0, 1, 0, 0};
        for (int what = 0; what < due.length; what++) {
            Check.same("count(" + what + ")", due[what], post.count(what));
        }
        Check.noSuch("count(13)", () -> post.count(13));
        Check.noSuch("count(-1)", () -> post.count(-1));
        Check.noSuch("count(least)", () -> post.count(Integer.MIN_VALUE));
        Check.noSuch("count(greatest)", () -> post.count(Integer.MAX_VALUE));
    }

    private static void person() {
        TearsPost post = Check.city("houses 3;person 2 chance 1000 hired;person 1;person 0 chance 0;person 0 hired;");
        int[][] due = {{2, 1000, 1}, {1, 100, 0}, {0, 0, 0}, {0, 100, 1}};
        for (int person = 0; person < 4; person++) {
            for (int what = 0; what < 3; what++) {
                Check.same("person(" + person + ", " + what + ")", due[person][what], post.person(person, what));
            }
        }
        Check.noSuch("person(4, 0)", () -> post.person(4, 0));
        Check.noSuch("person(-1, 0)", () -> post.person(-1, 0));
        Check.noSuch("person(0, 3)", () -> post.person(0, 3));
        Check.noSuch("person(0, -1)", () -> post.person(0, -1));
        Check.tell(post, "houses 3;person 2;");
        Check.same("one who is hired no more", 0, post.person(0, 2));
        Check.same("a chance told no more", 100, post.person(0, 1));
    }

    private static void walk() {
        TearsPost post = Check.city("houses 10;walk 0 9 99;walk 8 3 1;walk 2 1 5;walk 1 2 6;");
        Check.same("walk(0, 9)", 99, post.walk(0, 9));
        Check.same("walk(9, 0)", 99, post.walk(9, 0));
        Check.same("walk(3, 8)", 1, post.walk(3, 8));
        Check.same("walk(8, 3)", 1, post.walk(8, 3));
        Check.same("a walk told twice", 6, post.walk(2, 1));
        Check.same("a walk not told", 10, post.walk(4, 5));
        Check.same("walk(9, 9)", 0, post.walk(9, 9));
        Check.noSuch("walk(10, 0)", () -> post.walk(10, 0));
        Check.noSuch("walk(0, 10)", () -> post.walk(0, 10));
        Check.noSuch("walk(-1, 0)", () -> post.walk(-1, 0));
        Check.noSuch("walk(0, -1)", () -> post.walk(0, -1));
        Check.noSuch("walk(10, 10)", () -> post.walk(10, 10));
    }

    private static long moved(TearsPost post, int person, int house) {
        post.move(person, house);
        return 0;
    }

    private static void move() {
        TearsPost post = Check.city("houses 2;person 0;");
        post.weep(0, 1, 0);
        post.move(0, 1);
        Check.same("a home behind a move", 1, post.person(0, 0));
        Check.same("tears ahead of a move", 0, post.tears(0, 1));
        post.weep(0, 1, 0);
        Check.same("tears behind a move", 1, post.tears(1, 1));
        post.move(0, 1);
        Check.same("a move to where he lives", 1, post.person(0, 0));
        Check.noSuch("move(1, 0)", () -> moved(post, 1, 0));
        Check.noSuch("move(-1, 0)", () -> moved(post, -1, 0));
        Check.noSuch("move(0, 2)", () -> moved(post, 0, 2));
        Check.noSuch("move(0, -1)", () -> moved(post, 0, -1));
        Check.same("a home behind wrong moves", 1, post.person(0, 0));
    }
}
