/** Promise 3 at its boundaries: how long, how much and how deep a text may be, and each FAULT's two sides. */
public final class TextBoundsTests {
    private static final String[] VALUES = {"house", "person", "grief", "hired", "day", "hour", "before"};
    private static final String[] OTHER_WORDS = {"and", "or", "houses", "walk", "rule", "ask", "chance", "x", "days"};

    public static void main(String[] args) {
        lengthOfATextIsAtMost700();
        wordsAreTheLongestRow();
        eachByteWhereAClauseMayStand();
        eachByteWhereAPartMustStand();
        eachByteBehindAPart();
        blanksCountForNothing();
        numbersHaveOneToFourDigits();
        housesIsOneToTen();
        housesIsTheFirstClause();
        peopleAreAtMost16();
        chanceIsUpTo1000();
        chanceAndHiredAreInTheirOrder();
        walksAreOneTo99();
        aWalkIsBetweenTwo();
        rulesAreAtMost4();
        asksAreAtMost6();
        exprsWithinFiveOthersAndSix();
        whatIsRefusedWithinSixOthers();
        notsSideBySide();
        housesThatThereAreNot();
        wordsThatAreNoValue();
        oneTestOfSums();
        endsTooSoon();
        everyClauseEndsBySemicolon();
        firstAlongTheText();
        ofOneTokenTheLeast();
        fromTheLeft();
        intsWrap();
        dividesCutDownToZero();
        testsAreOneOrZero();
        whatIsNotZeroHolds();
        anyNumberOfTimes();
        deepestExpr();
        Check.finish("TextBoundsTests");
    }

    private static void lengthOfATextIsAtMost700() {
        Check.promise(3, "A TEXT of at most 700 bytes tells it.");
        Check.fine("");
        Check.fine(" ");
        Check.fine(" ".repeat(700));
        Check.fine("ask" + "1+".repeat(347) + "1;");
        Check.fine("ask" + "1+".repeat(347) + "1; ");
        Check.fault(" ".repeat(699) + "x", 1, 699);
        Check.fault("x" + " ".repeat(699), 1, 0);
        Check.fault("x".repeat(700), 1, 0);
        Check.fault(";".repeat(700), 1, 0);
        Check.fault("ask" + "1+".repeat(348) + " ", 1, 700);
        Check.fault("ask" + "1+".repeat(348) + "1", 1, 700);
        Check.fault("ask 9" + "9".repeat(695), 2, 4);
        TearsPost post = Check.city(" ".repeat(690) + "houses 10;");
        Check.same("HOUSES told by the last bytes of 700", 10, post.count(0));
        Check.same("one byte less", 1, Check.tell(post, " ".repeat(691) + "houses 9;".substring(0, 8)));
        Check.same("its place", 699, post.fault());
    }

    private static void wordsAreTheLongestRow() {
        Check.promise(3, "words (a .. z, the longest row)");
        Check.fine("houses3;person2chance50hired;walk0 1 5;rule1and 1;ask not(1);");
        Check.fine("rule not1;");
        Check.fine("rule 1or 1;");
        Check.fault("housesx 1;", 1, 0);
        Check.fault("ouses 1;", 1, 0);
        Check.fault("house 1;", 1, 0);
        Check.fault("houses1;persons 0;", 1, 8);
        Check.fault("rulenot1;", 1, 0);
        Check.fault("rule 1 andnot 1;", 1, 7);
        Check.fault("rule 1 o;", 1, 7);
        Check.fault("rule az;", 3, 5);
        Check.fault("rule za;", 3, 5);
        Check.fault("rule housez;", 3, 5);
        Check.fault("rule house1;", 1, 10);
        Check.fault("rule hous e;", 3, 5);
        Check.fault("rule housE;", 3, 5);
        Check.fault("rule House;", 1, 5);
        TearsPost post = new TearsPost();
        Check.feed(post, "houses 4;person 0;asking");
        Check.same("a word that the text's end cuts", 1, post.city(21));
        Check.same("is a word, and the text ends too soon", 21, post.fault());
        Check.feed(post, "houses 4;person 0;asking");
        Check.same("a word that is cut behind its end", 1, post.city(22));
        Check.same("is another word", 18, post.fault());
    }

    private static boolean isBlank(int sign) {
        return sign == 32 || sign == 10;
    }

    private static boolean isLetter(int sign) {
        return sign >= 97 && sign <= 122;
    }

    private static boolean isDigit(int sign) {
        return sign >= 48 && sign <= 57;
    }

    private static void eachByteWhereAClauseMayStand() {
        Check.promise(3, "blanks (32, 10) between them count for nothing");
        for (int sign = 0; sign < 256; sign++) {
            String text = "ask 1;" + (char) sign;
            if (isBlank(sign)) {
                Check.fine(text);
            } else {
                Check.fault(text, 1, 6);
            }
        }
    }

    private static void eachByteWhereAPartMustStand() {
        Check.promise(3, "PART: NUMBER | VALUE | '(' EXPR ')'.");
        for (int sign = 0; sign < 256; sign++) {
            boolean goesOn = isBlank(sign) || isDigit(sign) || sign == '(';
            Check.fault("rule " + (char) sign, isLetter(sign) ? 3 : 1, goesOn ? 6 : 5);
        }
    }

    private static void eachByteBehindAPart() {
        Check.promise(3, "signs ; ( ) + - * / < = ;");
        for (int sign = 0; sign < 256; sign++) {
            String text = "rule 1" + (char) sign;
            if (sign == ';') {
                Check.fine(text);
            } else {
                boolean goesOn = isBlank(sign) || isDigit(sign) || "+-*/<=".indexOf(sign) >= 0;
                Check.fault(text, 1, goesOn ? 7 : 6);
            }
        }
    }

    private static void blanksCountForNothing() {
        Check.promise(3, "blanks (32, 10) between them count for nothing");
        TearsPost post = Check.city(" \n houses\n\n 3 \n;\nperson\n2  chance \n 50\nhired ; ask\n(\n1\n)\n; \n");
        Check.same("HOUSES among blanks", 3, post.count(0));
        Check.same("a CHANCE among blanks", 50, post.person(0, 1));
        Check.fault("houses 1 0;", 1, 9);
        Check.fault("hou ses 1;", 1, 0);
        Check.fault("rule 1 \t;", 1, 7);
        Check.fault("rule 1\r;", 1, 6);
    }

    private static void numbersHaveOneToFourDigits() {
        Check.promise(3, "NUMBERS (1 to 4 digits)");
        Check.fine("rule 0;");
        Check.fine("rule 0000;");
        Check.fine("rule 9999;");
        Check.fine("houses 0010;person 0009 chance 0100;walk 0000 0001 0099;");
        Check.holds("9999=9998+1", 1);
        Check.holds("0009=9", 1);
        Check.holds("1234=1000+200+30+4", 1);
        Check.promise(3, "a NUMBER of 5 digits or more");
        Check.fault("rule 00000;", 2, 5);
        Check.fault("rule 10000;", 2, 5);
        Check.fault("ask 1+99999;", 2, 6);
        Check.fault("ask 4294967297;", 2, 4);
        Check.fault("houses 00001;", 2, 7);
        Check.fault("person 00000;", 2, 7);
        Check.fault("person 0 chance 00100;", 2, 16);
        Check.fault("houses 2;walk 00000 1 5;", 2, 14);
        Check.fault("houses 2;walk 0 00001 5;", 2, 16);
        Check.fault("houses 2;walk 0 1 00005;", 2, 18);
        Check.promise(3, "1 a TOKEN that can't stand there, or is none");
        Check.fault("10000", 1, 0);
        Check.fault("rule 1 10000;", 1, 7);
        Check.fault("houses 1 10000;", 1, 9);
        Check.fault("person 0 10000;", 1, 9);
    }

    private static void housesIsOneToTen() {
        Check.promise(3, "'houses' (1 to 10; 1 without) is the first CLAUSE, if it is told");
        for (int houses = 1; houses <= 10; houses++) {
            Check.same("HOUSES of " + houses, houses, Check.city("houses " + houses + ";").count(0));
        }
        Check.same("HOUSES without", 1, Check.city("person 0;").count(0));
        Check.same("HOUSES of no text", 1, Check.city("").count(0));
        Check.fault("houses 0;", 2, 7);
        Check.fault("houses 11;", 2, 7);
        Check.fault("houses 9999;", 2, 7);
    }

    private static void housesIsTheFirstClause() {
        Check.promise(3, "5 'houses' that isn't the first CLAUSE.");
        Check.fine("houses 2;person 1;");
        Check.fault("houses 2;houses 2;", 5, 9);
        Check.fault("person 0;houses 2;", 5, 9);
        Check.fault("houses 2;walk 0 1 5;houses 2;", 5, 20);
        Check.fault("rule 1; houses", 5, 8);
        Check.fault("ask 1;\nhouses 99;", 5, 7);
        Check.fault("person 0 houses 2;", 1, 9);
        Check.fault("houses houses 2;", 1, 7);
        Check.fault("ask houses;", 3, 4);
    }

    private static void peopleAreAtMost16() {
        Check.promise(3, "the first TOKEN of the 17th PERSON");
        TearsPost post = Check.city("person 0;".repeat(15) + "person 0 hired;");
        Check.same("PEOPLE", 16, post.count(1));
        Check.same("the 16th", 1, post.person(15, 2));
        Check.fault("person 0;".repeat(16) + "person 0;", 2, 144);
        Check.fault("person 0;".repeat(16) + "\n person", 2, 146);
        Check.fault("person 0;".repeat(16) + "person;", 2, 144);
        Check.fault("person 0;".repeat(16) + "ask 1;rule 1;person 9;", 2, 157);
        Check.fault("person 0;".repeat(16) + "persona 0;", 1, 144);
        Check.fault("person 0;".repeat(15) + "person 9;", 3, 142);
    }

    private static void chanceIsUpTo1000() {
        Check.promise(3, "with a CHANCE (0 to 1000)");
        TearsPost post = Check.city("person 0 chance 0;person 0 chance 1000;person 0 chance 1;person 0 chance 999;");
        int[] due = {0, 1000, 1, 999};
        for (int person = 0; person < 4; person++) {
            Check.same("CHANCE of " + person, due[person], post.person(person, 1));
        }
        Check.fault("person 0 chance 1001;", 2, 16);
        Check.fault("person 0 chance 9999;", 2, 16);
        Check.fault("person 0 chance -1;", 1, 16);
        Check.promise(3, "CHANCE 100 without");
        Check.same("CHANCE without", 100, Check.city("person 0;").person(0, 1));
        Check.same("CHANCE without, hired", 100, Check.city("person 0 hired;").person(0, 1));
    }

    private static void chanceAndHiredAreInTheirOrder() {
        Check.promise(3, "'person' HOUSE ['chance' NUMBER] ['hired']");
        Check.fine("person 0;");
        Check.fine("person 0 chance 5;");
        Check.fine("person 0 hired;");
        Check.fine("person 0 chance 5 hired;");
        Check.fault("person 0 hired chance 5;", 1, 15);
        Check.fault("person 0 hired hired;", 1, 15);
        Check.fault("person 0 chance 5 chance 5;", 1, 18);
        Check.fault("person 0 chance;", 1, 15);
        Check.fault("person 0 chance hired;", 1, 16);
        Check.fault("person 0 5;", 1, 9);
        Check.fault("person chance 5;", 1, 7);
        Check.fault("person 0 chances 5;", 1, 9);
        Check.fault("person 0 chanc 5;", 1, 9);
        Check.fault("person 0 house 5;", 1, 9);
        Check.fault("person 0 chance 5 hire;", 1, 18);
        Check.fault("person 0 chance 5 hireds;", 1, 18);
        Check.fault("person;", 1, 6);
        TearsPost post = Check.city("person 0;person 0 hired;person 0 chance 5;person 0 chance 5 hired;");
        int[] due = {0, 1, 0, 1};
        for (int person = 0; person < 4; person++) {
            Check.same("whether " + person + " is hired", due[person], post.person(person, 2));
        }
    }

    private static void walksAreOneTo99() {
        Check.promise(3, "WALKS between HOUSES (1 to 99; 10 if not told)");
        TearsPost post = Check.city("houses 10;walk 0 9 1;walk 9 8 99;walk 2 3 9;walk 4 5 11;");
        Check.same("a WALK of 1", 1, post.walk(0, 9));
        Check.same("a WALK of 99", 99, post.walk(8, 9));
        Check.same("a WALK of 9", 9, post.walk(2, 3));
        Check.same("a WALK of 11", 11, post.walk(5, 4));
        Check.same("a WALK that is not told", 10, post.walk(0, 8));
        Check.fault("houses 2;walk 0 1 0;", 2, 18);
        Check.fault("houses 2;walk 0 1 100;", 2, 18);
        Check.fault("houses 2;walk 0 1 9999;", 2, 18);
        Check.fault("houses 2;walk 0 1;", 1, 17);
        Check.fault("houses 2;walk 0 1 5 5;", 1, 20);
        Check.fault("houses 2;walk 0;", 1, 15);
    }

    private static void aWalkIsBetweenTwo() {
        Check.promise(3, "4 of 'walk' a second HOUSE that is the first");
        Check.fine("houses 10;walk 0 1 5;walk 1 0 5;walk 8 9 5;walk 9 0 5;");
        Check.fault("walk 0 0 5;", 4, 7);
        Check.fault("houses 10;walk 9 9 5;", 4, 17);
        Check.fault("houses 10;walk 9 0009 0;", 4, 17);
        Check.fault("houses 10;walk 10 10 5;", 3, 15);
        Check.fault("houses 10;walk 9 10 5;", 3, 17);
        Check.fault("walk 0 1 5;", 3, 7);
    }

    private static void rulesAreAtMost4() {
        Check.promise(3, "RULES 0 .. (at most 4): all of them must hold of TEARS that COUNT.");
        Check.same("no RULES", 0, Check.city("person 0;").count(2));
        Check.same("RULES", 4, Check.city("rule 1;".repeat(4)).count(2));
        Check.fault("rule 1;".repeat(4) + "rule 1;", 2, 28);
        Check.fault("rule 1;".repeat(4) + "ask 1; rule", 2, 35);
        Check.fault("rule 1;".repeat(3) + "rule x;", 3, 26);
        for (int failing = 0; failing <= 4; failing++) {
            StringBuilder text = new StringBuilder("person 0;");
            for (int rule = 0; rule < 4; rule++) {
                text.append(rule == failing ? "rule 0;" : "rule 1;");
            }
            TearsPost post = Check.city(text.toString());
            post.weep(0, 0, 0);
            Check.same("TEARS where RULE " + failing + " fails", failing == 4 ? 1 : 0, post.tears(0, 5));
        }
        TearsPost without = Check.city("person 0;");
        without.weep(0, 0, 0);
        Check.same("TEARS without RULES", 1, without.tears(0, 5));
    }

    private static void asksAreAtMost6() {
        Check.promise(3, "ASKS 0 .. (at most 6)");
        Check.same("no ASKS", 0, Check.city("").count(3));
        TearsPost post = Check.city("ask 0;".repeat(5) + "ask 1;");
        Check.same("ASKS", 6, post.count(3));
        Check.same("the fifth", 0, post.holds(4, 0) ? 1 : 0);
        Check.same("the sixth", 1, post.holds(5, 0) ? 1 : 0);
        Check.fault("ask 1;".repeat(6) + "ask 1;", 2, 36);
        Check.fault("ask 1;".repeat(6) + "rule 1;ask", 2, 43);
        Check.fault("ask 1;".repeat(5) + "ask x;", 3, 34);
        Check.fine("rule 1;".repeat(4) + "ask 1;".repeat(6) + "person 0;".repeat(16));
    }

    private static void exprsWithinFiveOthersAndSix() {
        Check.promise(3, "of an EXPR within 6 others (a NUMBER, any word, a parenthesis)");
        for (String clause : new String[] {"ask ", "rule "}) {
            for (int others = 0; others <= 5; others++) {
                Check.fine(clause + "(".repeat(others) + "1" + ")".repeat(others) + ";");
            }
            for (int others = 6; others <= 9; others++) {
                String text = clause + "(".repeat(others) + "1" + ")".repeat(others) + ";";
                Check.fault(text, 2, clause.length() + 6);
            }
        }
        Check.fine("rule (((((1)))))+(((((1)))))*(((((1)))));");
        Check.fine("rule (((((1)+(1))+(1))+(1))+(1))+1;");
        Check.fault("rule (((((1)))))+((((((1", 2, 23);
        Check.fault("rule (((((1+(1", 2, 13);
        Check.fault("rule 1+(1+(1+(1+(1+(1+(1", 2, 23);
        Check.fault("rule not(not(not(not(not(not(1", 2, 29);
        Check.fault("rule ((((((\n 1", 2, 13);
        Check.fine("rule not(not(not(not(not(1)))));");
        Check.fine("rule (((((house)))));");
        Check.fine("rule (((((not 1)))));");
    }

    private static void whatIsRefusedWithinSixOthers() {
        Check.promise(3, "of an EXPR within 6 others (a NUMBER, any word, a parenthesis)");
        String[] too = {"0", "9999", "00000", "12345", "not 1", "(", "(1)", "((("};
        for (String much : too) {
            Check.fault("rule ((((((" + much, 2, 11);
        }
        for (String word : VALUES) {
            Check.fault("ask ((((((" + word, 2, 10);
            Check.fine("ask (((((" + word + ")))));");
        }
        for (String word : OTHER_WORDS) {
            Check.fault("ask ((((((" + word, 2, 10);
            Check.fault("ask (((((" + word, 3, 9);
        }
        for (String sign : new String[] {")", ";", "+", "-", "*", "/", "<", "=", "!", "A", ""}) {
            Check.fault("ask ((((((" + sign, 1, 10);
            Check.fault("ask (((((" + sign, 1, 9);
        }
        Check.fault("ask ((((((   ", 1, 13);
    }

    private static void notsSideBySide() {
        Check.promise(3, "the seventh 'not' side by side");
        String six = "not ".repeat(6);
        Check.fine("rule " + six + "1;");
        Check.fine("rule " + six + "1 and " + six + "1 or " + six + "1;");
        Check.fine("rule " + six + "(" + six + "1);");
        Check.fine("rule (" + six + "1)<(" + six + "1);");
        Check.fault("rule " + six + "not 1;", 2, 29);
        Check.fault("rule " + six + "not not 1;", 2, 29);
        Check.fault("rule " + six + "\n not", 2, 31);
        Check.fault("ask 1 and " + six + "not 1;", 2, 34);
        Check.fault("ask (" + six + "not 1);", 2, 29);
        Check.fault("rule " + six + "x;", 3, 29);
        Check.fault("rule " + six + "and not 1;", 3, 29);
        Check.fault("rule " + six + ";", 1, 29);
        Check.fault("rule " + six + "+", 1, 29);
        Check.holds(six + "7", 1);
        Check.holds("not ".repeat(5) + "7", 0);
    }

    private static void housesThatThereAreNot() {
        Check.promise(3, "3 a HOUSE that there isn't");
        Check.fine("person 0;");
        Check.fault("person 1;", 3, 7);
        Check.fine("houses 3;person 2;walk 2 1 5;walk 0 2 5;");
        Check.fault("houses 3;person 3;", 3, 16);
        Check.fault("houses 3;walk 3 0 5;", 3, 14);
        Check.fault("houses 3;walk 0 3 5;", 3, 16);
        Check.fine("houses 10;person 9;");
        Check.fault("houses 10;person 10;", 3, 17);
        Check.fault("houses 10;person 9999;", 3, 17);
        Check.fault("houses 10;person 00010;", 2, 17);
        Check.fault("houses 10;person x;", 1, 17);
        Check.fault("houses 10;walk x 1 5;", 1, 15);
        Check.fault("houses 10;walk 0 x 5;", 1, 17);
        Check.fault("houses 10;walk 0 1 x;", 1, 19);
    }

    private static void wordsThatAreNoValue() {
        Check.promise(3, "any word where a PART must stand that is no VALUE");
        for (String ahead : new String[] {"", "not ", "1 and ", "1 or ", "("}) {
            wordsBehind("rule " + ahead, ahead.equals("(") ? ");" : ";");
            Check.fine("rule " + ahead + "not 1" + (ahead.equals("(") ? ");" : ";"));
        }
        for (String ahead : new String[] {"1 < ", "1 = ", "1 + ", "1 - ", "1 * ", "1 / "}) {
            wordsBehind("rule " + ahead, ";");
            Check.fault("rule " + ahead + "not 1;", 3, 9);
        }
        for (String word : VALUES) {
            Check.fault("rule 1 " + word + ";", 1, 7);
            Check.fault("houses " + word + ";", 1, 7);
        }
        for (String word : new String[] {"house", "grief", "hired", "day", "hour", "before", "not", "and", "chance"}) {
            Check.fault(word + " 0;", 1, 0);
        }
        Check.fault("rule 1 x;", 1, 7);
        Check.fault("rule 1 not 1;", 1, 7);
        Check.fault("rule (1 x);", 1, 8);
    }

    private static void wordsBehind(String ahead, String behind) {
        for (String word : VALUES) {
            Check.fine(ahead + word + behind);
        }
        for (String word : OTHER_WORDS) {
            Check.fault(ahead + word + behind, 3, ahead.length());
        }
    }

    private static void oneTestOfSums() {
        Check.promise(3, "SUM [('<' | '=') SUM]");
        Check.fine("rule 1<2;");
        Check.fine("rule 1<2 and 1=2 or not 1<2;");
        Check.fine("rule (1<2)<(1=2);");
        for (String first : new String[] {"<", "="}) {
            for (String second : new String[] {"<", "="}) {
                Check.fault("rule 1" + first + "2" + second + "3;", 1, 8);
                Check.fault("rule not 1" + first + "2+3*4" + second + "3;", 1, 16);
            }
        }
        Check.fault("rule 1<;", 1, 7);
        Check.fault("rule <1;", 1, 5);
        Check.fault("rule 1<=2;", 1, 7);
        Check.fault("rule 1=<2;", 1, 7);
    }

    private static void endsTooSoon() {
        Check.promise(3, "the text's length where it ends too soon");
        String[] tokens = ("houses 3 ; person 2 chance 50 hired ; person 1 ; walk 0 1 5 ; "
                + "rule not ( house + 1 ) < 2 and not 3 or 4 - 5 ; ask ( ( 1 ) = day ) * ( 2 / 1 ) ;").split(" ");
        StringBuilder text = new StringBuilder();
        for (String token : tokens) {
            text.append(token);
            for (String blanks : new String[] {"", " ", "\n  "}) {
                String whole = text + blanks;
                if (token.equals(";")) {
                    Check.fine(whole);
                } else {
                    Check.fault(whole, 1, whole.length());
                }
            }
            text.append(' ');
        }
        TearsPost post = new TearsPost();
        Check.feed(post, "houses 10;person 9;");
        Check.same("a text that ends ahead of the tape's bytes", 1, post.city(18));
        Check.same("its place", 18, post.fault());
        Check.feed(post, "houses 10;person 9;");
        Check.same("a NUMBER that the text's end cuts", 1, post.city(8));
        Check.same("its place", 8, post.fault());
    }

    private static void everyClauseEndsBySemicolon() {
        Check.promise(3, "CITY: CLAUSE*.");
        Check.fine("houses 2;person 0;walk 0 1 5;rule 1;ask 1;");
        Check.fault(";", 1, 0);
        Check.fault("houses 2;;", 1, 9);
        Check.fault("houses 2 person 0;", 1, 9);
        Check.fault("person 0 person 0;", 1, 9);
        Check.fault("rule 1 rule 1;", 1, 7);
        Check.fault("ask 1, ask 1;", 1, 5);
        Check.fault("rule (1;", 1, 7);
        Check.fault("rule 1);", 1, 6);
        Check.fault("rule ();", 1, 6);
        Check.fault("rule;", 1, 4);
        Check.fault("ask;", 1, 3);
    }

    private static void firstAlongTheText() {
        Check.promise(3, "FAULTS, the first along the text, at a TOKEN's first byte");
        Check.fault("person 9;x", 3, 7);
        Check.fault("x person 9;", 1, 0);
        Check.fault("houses 11 x", 2, 7);
        Check.fault("walk 0 0 0;houses 1;", 4, 7);
        Check.fault("person 0 chance 1001 chance", 2, 16);
        Check.fault("rule 1;rule 12345 x;ask", 2, 12);
        Check.fault("houses 3;walk 3 3 100;", 3, 14);
        Check.fault("ask ((((((1));;", 2, 10);
    }

    private static void ofOneTokenTheLeast() {
        Check.promise(3, "of one TOKEN the least");
        Check.fault("person 10000;", 2, 7);
        Check.fault("walk 0 00000 5;", 2, 7);
        Check.fault("rule ((((((x", 2, 11);
        Check.fault("rule ((((((houses", 2, 11);
        Check.fault("rule ((((((and", 2, 11);
        Check.fault("person 0 houses 1;", 1, 9);
    }

    private static void fromTheLeft() {
        Check.promise(3, "From the left");
        Check.holds("10-3-2=5", 1);
        Check.holds("10-3+2=9", 1);
        Check.holds("100/10/5=2", 1);
        Check.holds("7/2*2=6", 1);
        Check.holds("2*7/4=3", 1);
        Check.holds("1+2*3=7", 1);
        Check.holds("6-4/2=4", 1);
        Check.holds("(1+2)*3=9", 1);
        Check.holds("1 or 1 and 0", 1);
        Check.holds("(1 or 1) and 0", 0);
        Check.holds("0 and 1 or 1", 1);
        Check.holds("0 and (1 or 1)", 0);
        Check.holds("not 0 or 1", 1);
        Check.holds("not (0 or 1)", 0);
        Check.holds("not 1 and 0", 0);
        Check.holds("not (1 and 0)", 1);
        Check.holds("not 1<2", 0);
        Check.holds("(not 1)<2", 1);
        Check.holds("not 2=0", 1);
    }

    private static void intsWrap() {
        Check.promise(3, "ints that wrap");
        String most = "(2147*1000*1000+483*1000+647)";
        String least = "(0-1-" + most + ")";
        Check.holds("0<" + most, 1);
        Check.holds(most + "+1<0", 1);
        Check.holds(most + "+1=" + least, 1);
        Check.holds(least + "<0", 1);
        Check.holds(least + "-1=" + most, 1);
        Check.holds("0-" + least + "=" + least, 1);
        Check.holds(most + "*2=0-2", 1);
        Check.holds(least + "*2=0", 1);
        Check.holds(least + "/(0-1)=" + least, 1);
        Check.holds(least + "<" + most, 1);
        Check.holds(most + "<" + least, 0);
        Check.holds(most + "*" + most + "=1", 1);
    }

    private static void dividesCutDownToZero() {
        Check.promise(3, "/ cut down to 0, by 0 gives 0");
        Check.holds("7/2=3", 1);
        Check.holds("(0-7)/2=0-3", 1);
        Check.holds("7/(0-2)=0-3", 1);
        Check.holds("(0-7)/(0-2)=3", 1);
        Check.holds("1/2=0", 1);
        Check.holds("(0-1)/2=0", 1);
        Check.holds("7/1=7", 1);
        Check.holds("7/0=0", 1);
        Check.holds("0/0=0", 1);
        Check.holds("(0-7)/0=0", 1);
        Check.holds("7/(1-1)+3=3", 1);
        Check.holds("7/0/0=0", 1);
        Check.holds("5/0", 0);
    }

    private static void testsAreOneOrZero() {
        Check.promise(3, "tests, not, and, or are 1 or 0 (what isn't 0 holds)");
        String[] ones = {"1<2", "0-1<0", "2=2", "not 0", "2 and 4", "5 or 7", "0 or 7", "7 or 0", "not not 7",
            "0-1 and 0-1", "0 or 0-1", "1 and 2 and 3", "0 or 0 or 3"};
        for (String one : ones) {
            Check.holds("(" + one + ")=1", 1);
        }
        String[] noughts = {"1<1", "2<1", "2=1", "not 7", "not 1", "not (0-1)", "0 and 4", "4 and 0", "0 or 0",
            "1 and 2 and 0", "0 or 0 or 0", "not not 0"};
        for (String nought : noughts) {
            Check.holds("(" + nought + ")=0", 1);
        }
        Check.holds("(7)=7", 1);
        Check.holds("((0-7))=0-7", 1);
    }

    private static void whatIsNotZeroHolds() {
        Check.promise(3, "(what isn't 0 holds)");
        Check.holds("0", 0);
        Check.holds("1", 1);
        Check.holds("2", 1);
        Check.holds("0-1", 1);
        Check.holds("1-1", 0);
        Check.holds("(0-1) and (0-2)", 1);
        Check.holds("not (0-1)", 0);
    }

    private static void anyNumberOfTimes() {
        Check.promise(3, "* any number of times");
        String[] signs = {"+0", "-0", "*1", "/1", " or 0", " and 1"};
        for (String sign : signs) {
            int most = (700 - "ask 1;".length()) / sign.length();
            for (int times : new int[] {0, 1, 2, most}) {
                TearsPost post = Check.city("ask 1" + sign.repeat(times) + ";");
                Check.same(times + " times " + sign, 1, post.holds(0, 0) ? 1 : 0);
            }
        }
        Check.fine("houses 2;" + "walk 0 1 5;".repeat(62));
        Check.fault("houses 2;" + "walk 0 1 5;".repeat(62) + "walk 0 1", 1, 699);
    }

    /** Within five others, each of which waits for its right side at every level. */
    private static void deepestExpr() {
        Check.promise(3, "EXPR: AND ('or' AND)*.");
        String waiting = "0 or 1 and 1 < 1 + 1 * ";
        String deep = (waiting + "(").repeat(5) + waiting;
        Check.holds(deep + "3" + ")".repeat(5), 1);
        Check.holds(deep + "0" + ")".repeat(5), 0);
    }
}
