/** Promises 14 to 18: starves, purpose, table, newcomer, swept. */
final class AskTest {
    /** Ten holes more each year; nothing falls by itself. */
    private static final String LAND = "stuff s hard 0 soft 9;stuff t hard 5 soft 3;place a;place b;place c;"
            + "road a b long 1 holes 970;road b c long 1 holes 100;trade a b of s load 100;shock 0;";

    public static void main(String[] args) {
        Check check = new Check("AskTest");
        starves(check);
        purpose(check);
        purposeOfOddLaws(check);
        table(check);
        newcomer(check);
        newcomerOthers(check);
        swept(check);
        nothingChanges(check);
        check.end();
    }

    private static void starves(Check check) {
        LostRoads roads = Check.told(LAND);
        check.due("behind 3", roads.starves(0, 3), 3);
        check.due("not behind 2", roads.starves(0, 2), -1);
        check.due("within 50", roads.starves(0, 50), 3);
        check.due("the other one", roads.starves(1, 50), -1);
        check.due("years 0", roads.starves(0, 0), -1);
        check.due("years 51", roads.starves(0, 51), -1);
        check.due("no road", roads.starves(2, 5), -1);
        check.due("no road", roads.starves(-1, 5), -1);
        roads.years(2);
        check.due("from now on", roads.starves(0, 50), 1);
        roads.years(1);
        check.due("now", roads.starves(0, 1), 0);
        check.due("now, but no years", roads.starves(0, 51), -1);
        LostRoads lost = Check.told(LAND);
        lost.lose(0, 1, 1);
        check.due("5 more each year", lost.starves(0, 50), 6);
    }

    private static void purpose(Check check) {
        LostRoads roads = Check.told(LAND);
        check.due("2 years hold as they are", roads.purpose(0, 1, 2), 0);
        check.due("3 years", roads.purpose(0, 1, 3), 1);
        check.due("5 years", roads.purpose(0, 1, 5), 1);
        check.due("6 years", roads.purpose(0, 1, 6), 2);
        check.due("50 years", roads.purpose(0, 1, 50), 2);
        check.due("what does not mend", roads.purpose(0, 0, 3), -1);
        check.due("years 0", roads.purpose(0, 1, 0), -1);
        check.due("years 51", roads.purpose(0, 1, 51), -1);
        check.due("no road", roads.purpose(2, 1, 1), -1);
        check.due("no road", roads.purpose(-1, 1, 1), -1);
        check.due("no stuff", roads.purpose(0, 2, 1), -1);
        check.due("no stuff", roads.purpose(0, -1, 1), -1);
        roads.lose(0, 1, 1);
        check.due("on top of what is", roads.purpose(0, 1, 50), 1);
        roads.lose(0, 1, 0);
        roads.years(3);
        check.due("one that is worn through now, but behind no year", roads.purpose(0, 1, 1), 1);
        check.due("of what does not mend", roads.purpose(0, 0, 1), -1);
        LostRoads most = Check.told("stuff s hard 1 soft 0;place a;place b;road a b long 1 holes 999;"
                + "trade a b of s load 999;shock 0;");
        check.due("99 for 99 holes", most.purpose(0, 0, 50), 99);
        most.lose(0, 0, 99);
        check.due("99 are", most.purpose(0, 0, 50), 0);
    }

    private static void purposeOfOddLaws(Check check) {
        // More than 4 mend nothing: a search that halves would pass by.
        LostRoads roads = Check.told(LAND + "mend (lost<5)*(2<lost)*4;");
        check.due("just 3", roads.purpose(0, 0, 50), 3);
        LostRoads never = Check.told(LAND + "mend lost=99;");
        check.due("just 99", never.purpose(0, 0, 50), 99);
        LostRoads beyond = Check.told(LAND + "mend lost=100;");
        check.due("99 do not", beyond.purpose(0, 0, 50), -1);
        beyond.lose(0, 0, 50);
        check.due("but on top of 50 they would be 100", beyond.purpose(0, 0, 50), 50);
    }

    private static void table(Check check) {
        LostRoads roads = Check.told("stuff s hard 1 soft 0;stuff t hard 2 soft 9;stuff u hard 2 soft 9;place a;"
                + "place b;road a b long 1 holes 500;road a b long 9 holes 3;trade a b of s load 100;"
                + "trade b a of u load 100;shock 10;");
        check.due("of s: 20 more, 20 less", roads.table(0, 1), 503);
        check.due("of t: 20 more, 40 less", roads.table(1, 1), 483);
        check.due("of u", roads.table(2, 2), 463);
        check.due("best, the first of equal ones", roads.table(-1, 1), 1);
        check.due("best", roads.table(-1, 50), 1);
        check.due("no stuff", roads.table(3, 1), -1);
        check.due("no stuff", roads.table(-2, 1), -1);
        check.due("years 0", roads.table(0, 0), -1);
        check.due("years 51", roads.table(0, 51), -1);
        check.due("best of no years", roads.table(-1, 0), -1);
        roads.lose(1, 0, 1);
        check.due("what is lost on purpose stays what it is", roads.table(1, 2), 463 - 2);
        LostRoads worn = Check.told("stuff s hard 0 soft 0;place a;place b;road a b long 1 holes 950;"
                + "trade a b of s load 999;shock 0;");
        check.due("1000 at most", worn.table(0, 1), 1000);
        check.due("no trade: the first", Check.told("stuff s hard 0 soft 0;stuff t hard 9 soft 0;").table(-1, 1), 0);
    }

    private static void newcomer(Check check) {
        LostRoads roads = Check.told(LAND);
        check.due("100 more a year on the second road", roads.newcomer(1, 2, 0, 100, 4, 0), 40);
        check.due("all comes through", roads.newcomer(1, 2, 0, 100, 4, 1), 400);
        // Over both roads: the first one is worn through behind a year, and it would have 990 without.
        check.due("holes more", roads.newcomer(2, 0, 0, 200, 2, 0), 20 + 10);
        check.due("stranded from the second year on", roads.newcomer(2, 0, 0, 200, 3, 1), 200);
        LostRoads mending = Check.told("stuff s hard 0 soft 9;stuff t hard 5 soft 3;place a;place b;"
                + "road a b long 1 holes 500;trade a b of s load 100;shock 10;");
        check.due("fewer", mending.newcomer(0, 1, 1, 100, 1, 0), 10 - 50);
        check.due("what comes", mending.newcomer(0, 1, 1, 100, 2, 1), 180);
        LostRoads apart = Check.told("stuff s hard 0 soft 9;place a;place b;");
        check.due("stranded", apart.newcomer(0, 1, 0, 100, 2, 1), 0);
        check.due("stranded", apart.newcomer(0, 1, 0, 100, 2, 0), 0);
    }

    private static void newcomerOthers(Check check) {
        LostRoads roads = Check.told(LAND);
        check.noSuch("from", () -> roads.newcomer(3, 1, 0, 1, 1, 0));
        check.noSuch("from", () -> roads.newcomer(-1, 1, 0, 1, 1, 0));
        check.noSuch("to", () -> roads.newcomer(0, 3, 0, 1, 1, 0));
        check.noSuch("to", () -> roads.newcomer(0, -1, 0, 1, 1, 0));
        check.noSuch("the same", () -> roads.newcomer(1, 1, 0, 1, 1, 0));
        check.noSuch("stuff", () -> roads.newcomer(0, 1, 2, 1, 1, 0));
        check.noSuch("stuff", () -> roads.newcomer(0, 1, -1, 1, 1, 0));
        check.noSuch("load 0", () -> roads.newcomer(0, 1, 0, 0, 1, 0));
        check.noSuch("load 1000", () -> roads.newcomer(0, 1, 0, 1000, 1, 0));
        check.noSuch("years 0", () -> roads.newcomer(0, 1, 0, 1, 0, 0));
        check.noSuch("years 51", () -> roads.newcomer(0, 1, 0, 1, 51, 0));
        check.noSuch("what 2", () -> roads.newcomer(0, 1, 0, 1, 1, 2));
        check.noSuch("what -1", () -> roads.newcomer(0, 1, 0, 1, 1, -1));
        check.due("load 1, years 50", roads.newcomer(0, 1, 0, 1, 50, 1), 3);
        check.due("load 999", roads.newcomer(0, 1, 0, 999, 1, 1), 999);
        String five = LAND + "trade a b of s load 100;".repeat(4);
        check.due("a sixth", Check.told(five).newcomer(0, 1, 0, 7, 1, 1), 7);
        LostRoads six = Check.told(five + "trade a b of s load 100;");
        check.noSuch("a seventh", () -> six.newcomer(0, 1, 0, 1, 1, 0));
    }

    private static void swept(Check check) {
        LostRoads roads = Check.told("stuff s hard 1 soft 9;place a;place b;place c;road a b long 1 holes 100;"
                + "road b c long 1 holes 100;trade a c of s load 100;shock 10;");
        // 10 more and 10 less on the first road; 9 more and 9 less on the second.
        check.due("first", roads.swept(0, 1), 10);
        check.due("second", roads.swept(1, 3), 27);
        roads.lose(0, 0, 20);
        check.due("what is lost on purpose is swept, too", roads.swept(0, 2), 60);
        check.noSuch("no road", () -> roads.swept(2, 1));
        check.noSuch("no road", () -> roads.swept(-1, 1));
        check.noSuch("years 0", () -> roads.swept(0, 0));
        check.noSuch("years 51", () -> roads.swept(0, 51));
        LostRoads worse = Check.told("stuff s hard 9 soft 9;place a;place b;road a b long 1 holes 950;"
                + "road a b long 2 holes 10;trade a b of s load 500;shock hard+1;");
        // Unswept it is mended by 45 of 50; swept it is worn through at once: 1000 at most.
        check.due("1000 at most", worse.swept(0, 1), 1000 - 955);
        LostRoads surface = Check.told("stuff s hard 9 soft 9;place a;place b;road a b long 1 holes 0;"
                + "trade a b of s load 100;shock 10+hard;mend 0;");
        check.due("swept parts are in no surface: as many pass", surface.swept(0, 5), 0);
    }

    private static void nothingChanges(Check check) {
        LostRoads roads = Check.told("stuff s hard 1 soft 5;stuff t hard 3 soft 5;place a;place b;"
                + "road a b long 1 holes 50;road b a long 1 holes 60;trade a b of s load 300;");
        roads.lose(1, 1, 2);
        roads.years(1);
        String before = Check.picture(roads);
        int layer = roads.layer(0, 1, 1);
        roads.starves(0, 50);
        roads.purpose(0, 1, 50);
        roads.purpose(1, 0, 50);
        roads.table(1, 50);
        roads.table(-1, 50);
        roads.newcomer(0, 1, 1, 999, 50, 0);
        roads.newcomer(0, 1, 1, 999, 50, 1);
        roads.swept(0, 50);
        roads.wars(7, 20, 50, 0);
        roads.went(0, 1);
        roads.cost(0);
        check.due("all is as it was", Check.picture(roads), before);
        check.due("the layer, too", roads.layer(0, 1, 1), layer);
        check.due("no trade more", roads.trade(1, 0), -1);
        roads.years(1);
        check.due("what is lost on purpose is as it was", roads.layer(1, 1, 1), 2);
        check.due("the trade carries what it did", roads.trade(0, 2), 0);
    }
}
