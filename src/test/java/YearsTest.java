/** Promises 11 to 13: years, lose, layer. */
final class YearsTest {
    private static final String TWO = "stuff s hard 1 soft 0;stuff t hard 2 soft 0;place a;place b;place c;";

    public static void main(String[] args) {
        Check check = new Check("YearsTest");
        bounds(check);
        alongTheWay(check);
        allByTheBeginning(check);
        together(check);
        eachItsWay(check);
        onPurpose(check);
        onPurposeWhereWorn(check);
        layers(check);
        keptLayers(check);
        check.end();
    }

    private static void bounds(Check check) {
        LostRoads roads = Check.told(TWO);
        check.due("years 0", roads.years(0), -1);
        check.due("years -1", roads.years(-1), -1);
        check.due("years 51", roads.years(51), -1);
        check.due("years most", roads.years(Integer.MAX_VALUE), -1);
        check.due("none has passed", roads.count(4), 0);
        check.due("years 50", roads.years(50), 50);
        check.due("years 1", roads.years(1), 51);
    }

    private static void alongTheWay(Check check) {
        LostRoads roads = Check.told(TWO + "road a b long 1 holes 30;road c b long 1 holes 50;"
                + "trade a c of t load 99;mend 0;");
        roads.years(1);
        // 29 of 99 fall (cut), 70 are left; 35 of these fall.
        check.due("first road", roads.layer(0, 0, 1), 29);
        check.due("second road", roads.layer(0, 1, 1), 35);
        check.due("comes", roads.trade(0, 4), 35);
        check.due("a tenth of 99", roads.road(0, 3), 39);
        check.due("a tenth of 70", roads.road(1, 3), 57);
        check.due("of the other stuff none", roads.stuff(0, 2), 0);
        check.due("fell", roads.stuff(1, 2), 64);
    }

    private static void allByTheBeginning(Check check) {
        // The first trade's holes, and its parts on the road, do not change what the second one meets.
        LostRoads roads = Check.told(TWO + "road a b long 1 holes 10;trade a b of s load 900;trade b a of t load 100;"
                + "shock holes+hard;mend 0;");
        roads.years(1);
        check.due("first", roads.trade(0, 4), 810);
        check.due("second", roads.trade(1, 4), 90);
        check.due("holes", roads.road(0, 3), 110);
    }

    private static void together(Check check) {
        LostRoads roads = Check.told(TWO + "road a b long 1 holes 10;trade a b of s load 5;trade a b of t load 6;"
                + "shock 0;");
        roads.years(1);
        check.due("a tenth of 11 together", roads.road(0, 3), 11);
    }

    /** Trades of unlike loads take unlike roads in one and the same year. */
    private static void eachItsWay(Check check) {
        LostRoads roads = Check.told(TWO + "road a b long 1 holes 10;road a b long 2 holes 20;"
                + "way ( long = 1 ) * load + 50;trade a b of s load 100;trade a b of s load 10;");
        check.due("all would take the second", roads.way(1, 0), 1);
        roads = Check.told(TWO + "road a b long 1 holes 10;road a b long 2 holes 20;"
                + "way ( long = 1 ) * load + ( long = 2 ) * 50;trade a b of s load 100;trade a b of s load 10;"
                + "trade b a of t load 200;shock 0;mend 0;");
        roads.years(1);
        check.due("the light one", roads.road(0, 3), 11);
        check.due("the heavy ones", roads.road(1, 3), 50);
    }

    private static void onPurpose(Check check) {
        LostRoads roads = Check.told(TWO + "road a b long 1 holes 500;");
        check.due("lose", roads.lose(0, 1, 99), true);
        check.due("lose 100", roads.lose(0, 1, 100), false);
        check.due("lose -1", roads.lose(0, 1, -1), false);
        check.due("lose on no road", roads.lose(1, 1, 1), false);
        check.due("lose on no road", roads.lose(-1, 1, 1), false);
        check.due("lose no stuff", roads.lose(0, 2, 1), false);
        check.due("lose no stuff", roads.lose(0, -1, 1), false);
        roads.years(1);
        check.due("mended", roads.road(0, 3), 500 - 198);
        roads.lose(0, 0, 3);
        roads.lose(0, 1, 2);
        roads.years(1);
        check.due("each year anew, as told last", roads.road(0, 3), 500 - 198 - 3 - 4);
        roads.lose(0, 1, 0);
        roads.years(2);
        check.due("no more of the one", roads.road(0, 3), 500 - 198 - 3 - 4 - 6);
        check.due("surface", roads.surface(0, 1), 101);
        check.due("fell", roads.stuff(1, 2), 101);
    }

    private static void onPurposeWhereWorn(Check check) {
        LostRoads roads = Check.told(TWO + "road a b long 1 holes 990;trade a b of s load 300;shock 0;");
        roads.years(1);
        check.due("worn through", roads.road(0, 3), 1020);
        roads.lose(0, 1, 11);
        roads.years(1);
        check.due("mended on purpose", roads.road(0, 3), 998);
        check.due("nobody passed in that year", roads.trade(0, 4), -1);
        roads.years(1);
        check.due("one passes again", roads.trade(0, 4), 300);
        check.due("30 more, 22 less", roads.road(0, 3), 1006);
    }

    private static void layers(Check check) {
        LostRoads roads = Check.told(TWO + "road a b long 1 holes 20;road b c long 1 holes 0;trade a b of s load 10;"
                + "trade b a of s load 20;mend 0;");
        roads.lose(0, 0, 5);
        roads.lose(1, 1, 4);
        check.due("not yet", roads.layer(0, 0, 0), -1);
        roads.years(1);
        check.due("2 + 4 + 5", roads.layer(0, 0, 0), 11);
        check.due("none of it", roads.layer(0, 0, 1), 0);
        check.due("on purpose alone", roads.layer(0, 1, 1), 4);
        check.due("the next year", roads.layer(1, 0, 0), -1);
        check.due("no year", roads.layer(-1, 0, 0), -1);
        check.due("no road", roads.layer(0, 2, 0), -1);
        check.due("no road", roads.layer(0, -1, 0), -1);
        check.due("no stuff", roads.layer(0, 0, 2), -1);
        check.due("no stuff", roads.layer(0, 0, -1), -1);
        roads.lose(0, 0, 0);
        roads.years(1);
        // 23 holes now: 2 + 4.
        check.due("the next layer", roads.layer(1, 0, 0), 6);
        check.due("the first one stays", roads.layer(0, 0, 0), 11);
        LostRoads many = Check.told(TWO + "road a b long 1 holes 9;".repeat(10) + "stuff u hard 1 soft 1;"
                + "stuff v hard 1 soft 1;stuff w hard 1 soft 1;");
        for (int year = 0; year < 40; year++) {
            for (int cell = year % 5; cell < 50; cell += 13) {
                many.lose(cell / 5, cell % 5, year * 2 + cell % 9);
            }
            many.years(1);
        }
        for (int year = 0; year < 40; year++) {
            for (int cell = year % 5; cell < 50; cell += 13) {
                check.due("each layer by itself", many.layer(year, cell / 5, cell % 5), year * 2 + cell % 9);
            }
        }
    }

    private static void keptLayers(Check check) {
        LostRoads roads = Check.told(TWO + "road a b long 1 holes 500;mend 0;");
        roads.lose(0, 0, 3);
        roads.years(39);
        roads.lose(0, 0, 4);
        roads.years(1);
        roads.lose(0, 0, 5);
        roads.years(2);
        check.due("38", roads.layer(38, 0, 0), 3);
        check.due("39", roads.layer(39, 0, 0), 4);
        check.due("40 is not kept", roads.layer(40, 0, 0), -1);
        check.due("41 is not kept", roads.layer(41, 0, 0), -1);
        check.due("most", roads.layer(Integer.MAX_VALUE, 0, 0), -1);
        check.due("least", roads.layer(Integer.MIN_VALUE, 0, 0), -1);
        check.due("all the same it fell", roads.surface(0, 0), 39 * 3 + 4 + 10);
    }
}
