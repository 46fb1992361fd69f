/** Each sentence of the document that tells a bound of the roads and of a YEAR (promises 4 to 13, 23). */
final class BoundsYearTest {
    private static final String TWO = "stuff s hard 1 soft 0;stuff t hard 2 soft 9;place a;place b;place c;";

    private final Check check = new Check("BoundsYearTest");

    public static void main(String[] args) {
        BoundsYearTest test = new BoundsYearTest();
        test.means();
        test.wornThrough();
        test.wornThroughIsNone();
        test.wornThroughIsMended();
        test.costsLeast();
        test.fewestRoads();
        test.firstRow();
        test.stranded();
        test.cut();
        test.passes();
        test.aTenth();
        test.mostHoles();
        test.noughtAtLeast();
        test.theBeginning();
        test.eachStuff();
        test.nothingLies();
        test.onPurpose();
        test.layersKept();
        test.layersApart();
        test.fullNet();
        test.check.end();
    }

    private void due(LostRoads roads, int trade, int cost, int... row) {
        for (int i = 0; i < row.length; i++) {
            check.due("road " + i + " of the way", roads.way(trade, i), row[i]);
        }
        check.due("beyond the way", roads.way(trade, row.length), -1);
        check.due("cost", roads.cost(trade), cost);
    }

    private void means() {
        check.sentence("how hard and soft it is: the means of its parts, cut (0 without)");
        LostRoads roads = Check.told("stuff s hard 9 soft 0;stuff t hard 8 soft 1;place a;place b;road a b long 1 holes 9;");
        check.due("hard without", roads.road(0, 4), 0);
        check.due("soft without", roads.road(0, 5), 0);
        roads.years(1);
        check.due("hard of a road on which nothing fell", roads.road(0, 4), 0);
        roads.lose(0, 0, 1);
        roads.years(1);
        check.due("hard of one part", roads.road(0, 4), 9);
        check.due("soft of one part", roads.road(0, 5), 0);
        roads.lose(0, 0, 98);
        roads.lose(0, 1, 1);
        roads.years(1);
        check.due("hard: 899 / 100", roads.road(0, 4), 8);
        check.due("soft: 1 / 100", roads.road(0, 5), 0);
        roads.lose(0, 0, 0);
        roads.lose(0, 1, 99);
        roads.years(49);
        check.due("soft: 4852 / 4951", roads.road(0, 5), 0);
        check.due("hard: 39707 / 4951", roads.road(0, 4), 8);
        check.due("surface", roads.surface(0, 0), 99);
        check.due("surface", roads.surface(0, 1), 1 + 99 * 49);
    }

    /** A road that a trade has worn to just so many holes. */
    private static LostRoads holes(int many) {
        LostRoads roads = Check.told("stuff s hard 0 soft 0;place a;place b;road a b long 1 holes 900;"
                + "trade a b of s load " + (many - 900) * 10 + ";shock 0;");
        roads.years(1);
        return roads;
    }

    private void wornThrough() {
        check.sentence("A road of 1,000 HOLES or more is WORN THROUGH");
        for (int many = 998; many < 1000; many++) {
            LostRoads roads = holes(many);
            check.due("holes", roads.road(0, 3), many);
            check.due("worn through", roads.road(0, 6), 0);
            check.due("of all roads", roads.count(5), 0);
            check.due("holes of all", roads.count(6), many);
        }
        LostRoads told = Check.told("place a;place b;road a b long 1 holes 999;");
        check.due("999 worn through", told.road(0, 6), 0);
        LostRoads roads = Check.told("stuff s hard 0 soft 0;place a;place b;road a b long 1 holes 999;"
                + "trade a b of s load 19;shock 0;");
        roads.years(1);
        check.due("1000 holes", roads.road(0, 3), 1000);
        check.due("1000 worn through", roads.road(0, 6), 1);
        check.due("of all roads", roads.count(5), 1);
        check.due("holes of all", roads.count(6), 1000);
        roads = Check.told("stuff s hard 0 soft 0;place a;place b;road a b long 1 holes 999;"
                + "trade a b of s load 20;shock 0;");
        roads.years(1);
        check.due("1001 holes", roads.road(0, 3), 1001);
        check.due("1001 worn through", roads.road(0, 6), 1);
        check.sentence("6: HOLES of all roads, 1,000 at most each");
        check.due("holes of all", roads.count(6), 1000);
    }

    private void wornThroughIsNone() {
        check.sentence("WORN THROUGH: it is none");
        LostRoads roads = Check.told(TWO + "road a b long 1 holes 999;road a c long 50 holes 0;road c b long 49 holes 0;"
                + "trade a b of s load 10;shock 0;");
        due(roads, 0, 1, 0);
        roads.years(1);
        check.due("worn through", roads.road(0, 6), 1);
        due(roads, 0, 99, 1, 2);
        roads.years(1);
        check.due("it came the other way", roads.trade(0, 4), 10);
        check.due("nobody wears it any more", roads.road(0, 3), 1000);
        LostRoads alone = Check.told("stuff s hard 0 soft 0;place a;place b;road a b long 1 holes 999;"
                + "trade a b of s load 10;");
        due(alone, 0, 1, 0);
        alone.years(1);
        check.due("no way", alone.way(0, 0), -1);
        check.noSuch("no cost", () -> alone.cost(0));
    }

    private void wornThroughIsMended() {
        check.sentence("What is to be lost on purpose falls on its road, too");
        LostRoads roads = Check.told(TWO + "road a b long 1 holes 999;trade a b of s load 10;shock 0;");
        roads.years(1);
        roads.lose(0, 1, 1);
        roads.years(1);
        check.due("holes", roads.road(0, 3), 998);
        check.due("stranded in that year", roads.trade(0, 4), -1);
        check.due("the layer", roads.layer(1, 0, 1), 1);
        due(roads, 0, 1, 0);
        check.due("surface", roads.surface(0, 1), 1);
        roads.years(1);
        check.due("it is a road again", roads.trade(0, 4), 10);
    }

    private void costsLeast() {
        check.sentence("takes the WAY from its first PLACE to its second one that costs least");
        LostRoads roads = Check.told(TWO + "road c a long 8 holes 0;road b c long 1 holes 0;road b a long 10 holes 0;"
                + "trade a b of s load 1;trade b a of s load 1;trade c b of s load 1;");
        due(roads, 0, 9, 0, 1);
        due(roads, 1, 9, 1, 0);
        due(roads, 2, 1, 1);
        roads = Check.told(TWO + "road a b long 99 holes 0;road a b long 98 holes 0;road b a long 97 holes 0;"
                + "trade a b of s load 1;");
        due(roads, 0, 97, 2);
        StringBuilder six = new StringBuilder("stuff s hard 1 soft 1;");
        for (char c = 'a'; c < 'h'; c++) {
            six.append("place ").append(c).append(";");
        }
        for (char c = 'a'; c < 'g'; c++) {
            six.append("road ").append(c).append(" ").append((char) (c + 1)).append(" long 1 holes 0;");
        }
        due(Check.told(six + "road a g long 7 holes 0;trade a g of s load 1;"), 0, 6, 0, 1, 2, 3, 4, 5);
        due(Check.told(six + "road a g long 5 holes 0;trade g a of s load 1;"), 0, 5, 6);
        due(Check.told(six + "trade g a of s load 1;way 9999;"), 0, 59994, 5, 4, 3, 2, 1, 0);
    }

    private void fewestRoads() {
        check.sentence("of equal ones that of the fewest roads");
        LostRoads roads = Check.told(TWO + "road a b long 4 holes 0;road b c long 6 holes 0;road a c long 10 holes 0;"
                + "trade a c of s load 1;trade c a of s load 1;");
        due(roads, 0, 10, 2);
        due(roads, 1, 10, 2);
        StringBuilder six = new StringBuilder("stuff s hard 1 soft 1;");
        for (char c = 'a'; c < 'h'; c++) {
            six.append("place ").append(c).append(";");
        }
        for (char c = 'a'; c < 'g'; c++) {
            six.append("road ").append(c).append(" ").append((char) (c + 1)).append(" long 1 holes 0;");
        }
        due(Check.told(six + "road a g long 6 holes 0;trade a g of s load 1;"), 0, 6, 6);
        due(Check.told(six + "road a f long 5 holes 0;trade a g of s load 1;"), 0, 6, 6, 5);
        due(Check.told(six + "road b g long 5 holes 0;trade a g of s load 1;"), 0, 6, 0, 6);
        due(Check.told(six + "road b d long 2 holes 0;road a d long 3 holes 0;road d g long 3 holes 0;"
                + "road b g long 5 holes 0;trade a g of s load 1;"), 0, 6, 0, 9);
    }

    private void firstRow() {
        check.sentence("then the first row of road numbers");
        LostRoads roads = Check.told(TWO + "road c b long 5 holes 0;road a b long 5 holes 0;road a b long 5 holes 0;"
                + "road b c long 5 holes 0;trade a c of s load 1;trade c a of s load 1;");
        due(roads, 0, 10, 1, 0);
        due(roads, 1, 10, 0, 1);
        // The row of its numbers as it is gone counts, not the least number in it.
        roads = Check.told("stuff s hard 0 soft 0;place a;place b;place c;place d;road b d long 5 holes 0;"
                + "road a c long 5 holes 0;road a b long 5 holes 0;road c d long 5 holes 0;trade a d of s load 1;"
                + "trade d a of s load 1;");
        due(roads, 0, 10, 1, 3);
        due(roads, 1, 10, 0, 2);
        // Ten roads between two places: the last one of the least.
        StringBuilder ten = new StringBuilder(TWO);
        for (int i = 0; i < 10; i++) {
            ten.append("road a b long ").append(i < 8 ? 9 : 8).append(" holes 0;");
        }
        due(Check.told(ten + "trade b a of s load 1;"), 0, 8, 8);
        due(Check.told(ten + "trade b a of s load 1;way 1;"), 0, 1, 0);
        due(Check.told(ten.toString().replaceFirst("8 holes", "7 holes") + "trade b a of s load 1;way 9-long;"), 0, 1, 0);
    }

    private void stranded() {
        check.sentence("without one it is STRANDED");
        LostRoads roads = Check.told(TWO + "road a b long 1 holes 0;trade a c of s load 5;trade a b of s load 7;"
                + "trade c b of t load 9;");
        check.due("no way", roads.way(0, 0), -1);
        check.noSuch("no cost", () -> roads.cost(0));
        check.noSuch("no cost", () -> roads.cost(2));
        roads.years(2);
        check.due("stranded", roads.trade(0, 4), -1);
        check.due("in all", roads.trade(0, 5), 0);
        check.due("not stranded", roads.trade(1, 4), 7);
        check.due("in all", roads.trade(1, 5), 14);
        check.due("stranded", roads.trade(2, 4), -1);
        check.due("nothing fell", roads.stuff(1, 2), 0);
        LostRoads none = Check.told(TWO + "trade a b of s load 5;");
        check.due("no road at all", none.way(0, 0), -1);
        check.noSuch("no road at all", () -> none.cost(0));
        check.sentence("4: what CAME through in the last YEAR (NONE: STRANDED, no YEAR)");
        check.due("no year", none.trade(0, 4), -1);
        none.years(1);
        check.due("stranded", none.trade(0, 4), -1);
        LostRoads once = Check.told("stuff s hard 0 soft 0;place a;place b;road a b long 1 holes 999;"
                + "trade a b of s load 10;shock 0;");
        check.due("no year", once.trade(0, 4), -1);
        once.years(1);
        check.due("came", once.trade(0, 4), 10);
        once.years(1);
        check.due("stranded", once.trade(0, 4), -1);
        check.due("in all", once.trade(0, 5), 10);
    }

    private void cut() {
        check.sentence("so many of a hundred fall as the E of shock says (0 to 100; cut)");
        int[][] rows = {{1, 99, 0}, {1, 100, 1}, {999, 100, 999}, {999, 99, 989}, {999, 1, 9}, {99, 1, 0}, {100, 1, 1},
            {199, 1, 1}, {200, 1, 2}, {999, 0, 0}, {3, 33, 0}, {3, 34, 1}, {3, 66, 1}, {3, 67, 2}};
        for (int[] row : rows) {
            LostRoads roads = Check.told("stuff s hard 0 soft 0;place a;place b;road a b long 1 holes 0;"
                    + "trade a b of s load " + row[0] + ";shock " + row[1] + ";");
            roads.years(1);
            check.due("fell of " + row[0] + " by " + row[1], roads.layer(0, 0, 0), row[2]);
            check.due("came of " + row[0] + " by " + row[1], roads.trade(0, 4), row[0] - row[2]);
            check.due("fell in all", roads.stuff(0, 2), row[2]);
        }
    }

    private void passes() {
        check.sentence("what was left ahead of a road PASSES over it; what is left at last COMES through");
        LostRoads roads = Check.told(TWO + "road b c long 1 holes 0;road a b long 1 holes 0;trade a c of s load 999;"
                + "shock 100;mend 0;");
        roads.years(1);
        check.due("all pass over the first", roads.road(1, 3), 99);
        check.due("none are left for the second", roads.road(0, 3), 0);
        check.due("none come", roads.trade(0, 4), 0);
        check.due("none of the second's layer", roads.layer(0, 0, 0), 0);
        roads = Check.told(TWO + "road b c long 1 holes 0;road a b long 1 holes 0;trade a c of s load 999;"
                + "shock 50;mend 0;");
        roads.years(1);
        check.due("fell on the first", roads.layer(0, 1, 0), 499);
        check.due("500 pass over the second", roads.road(0, 3), 50);
        check.due("fell on the second", roads.layer(0, 0, 0), 250);
        check.due("come", roads.trade(0, 4), 250);
    }

    private void aTenth() {
        check.sentence("the HOLES are a tenth of what PASSED more (cut");
        int[][] rows = {{9, 0}, {10, 1}, {19, 1}, {20, 2}, {999, 99}};
        for (int[] row : rows) {
            LostRoads roads = Check.told("stuff s hard 0 soft 0;place a;place b;road a b long 1 holes 5;"
                    + "trade a b of s load " + row[0] + ";shock 0;");
            roads.years(1);
            check.due("holes more by " + row[0], roads.road(0, 3), 5 + row[1]);
        }
        // Of all that passed together, both ways and of all stuffs.
        LostRoads roads = Check.told(TWO + "road a b long 1 holes 5;trade a b of s load 3;trade b a of s load 3;"
                + "trade a b of t load 4;shock 0;");
        roads.years(1);
        check.due("3 + 3 + 4", roads.road(0, 3), 6);
        check.sentence("each trade, in order, takes the WAY");
        roads = Check.told(TWO + "road a b long 1 holes 0;road a b long 2 holes 0;trade a b of s load 100;"
                + "trade b a of s load 200;trade a b of s load 300;shock 10;way (long=1)*load+200;mend 0;");
        due(roads, 0, 200, 1);
        roads = Check.told(TWO + "road a b long 1 holes 0;road a b long 2 holes 0;trade a b of s load 100;"
                + "trade b a of s load 200;trade a b of s load 300;shock 10;way (long=1)*load+(long=2)*250;mend 0;");
        due(roads, 0, 100, 0);
        due(roads, 2, 250, 1);
        roads.years(1);
        check.due("two fall on one road", roads.layer(0, 0, 0), 30);
        check.due("and one on the other", roads.layer(0, 1, 0), 30);
        check.due("300 passed", roads.road(0, 3), 30);
        check.due("300 passed", roads.road(1, 3), 30);
    }

    private void mostHoles() {
        check.sentence("the HOLES are a tenth of what PASSED more (cut; 999,999 at most)");
        // As many as a road can ever have: it is none from 1,000 on, so 999,999 are never reached.
        LostRoads roads = Check.told("stuff s hard 0 soft 0;place a;place b;road a b long 1 holes 999;"
                + "trade a b of s load 999;".repeat(6) + "shock 0;");
        roads.years(1);
        check.due("999 + 599", roads.road(0, 3), 1598);
        roads.years(50);
        check.due("no more", roads.road(0, 3), 1598);
        check.due("of all, 1000 at most", roads.count(6), 1000);
    }

    private void noughtAtLeast() {
        check.sentence("the HOLES are less by the E of mend times the parts, 0 at least");
        int[] lost = {1, 2, 3};
        int[] holes = {99, 0, 0};
        for (int i = 0; i < lost.length; i++) {
            LostRoads roads = Check.told("stuff s hard 9 soft 9;place a;place b;road a b long 1 holes 198;mend 99;");
            roads.lose(0, 0, lost[i]);
            roads.years(1);
            check.due("holes behind " + lost[i], roads.road(0, 3), holes[i]);
            roads.years(2);
            check.due("0 at least", roads.road(0, 3), 0);
            check.due("all parts come into the surface", roads.surface(0, 0), lost[i] * 3);
        }
        LostRoads none = Check.told("stuff s hard 9 soft 9;place a;place b;road a b long 1 holes 0;");
        none.lose(0, 0, 99);
        none.years(1);
        check.due("0 stays 0", none.road(0, 3), 0);
        check.due("the surface grows", none.surface(0, 0), 99);
    }

    private void theBeginning() {
        check.sentence("A YEAR, all by what roads are at its beginning");
        // The first trade wears the road through: the second one goes over it all the same.
        LostRoads roads = Check.told("stuff s hard 0 soft 0;place a;place b;road a b long 1 holes 950;"
                + "trade a b of s load 999;trade b a of s load 999;shock 10;");
        roads.years(1);
        check.due("first", roads.trade(0, 4), 900);
        check.due("second", roads.trade(1, 4), 900);
        check.due("both", roads.road(0, 3), 950 + 199);
        check.sentence("the E of mend (by HOLES, SURFACE of the beginning");
        roads = Check.told("stuff s hard 9 soft 9;stuff t hard 9 soft 9;place a;place b;road a b long 1 holes 500;"
                + "mend (holes=500)+hard;trade a b of s load 100;shock 0;");
        roads.lose(0, 0, 1);
        roads.lose(0, 1, 1);
        roads.years(1);
        check.due("1 by each stuff", roads.road(0, 3), 508);
        roads.years(1);
        check.due("9 by each stuff", roads.road(0, 3), 500);
    }

    private void eachStuff() {
        check.sentence("of each STUFF that lies there, in order, all parts come into the SURFACE");
        LostRoads roads = Check.told("stuff o hard 0 soft 0;stuff p hard 1 soft 0;stuff q hard 2 soft 0;"
                + "stuff r hard 3 soft 0;stuff s hard 4 soft 0;place a;place b;road a b long 1 holes 900;"
                + "mend strong*strong+lost;");
        for (int stuff = 0; stuff < 5; stuff++) {
            roads.lose(0, stuff, 5 - stuff);
        }
        roads.years(1);
        check.due("holes", roads.road(0, 3), 900 - 5 * 5 - 4 * (1 + 4) - 3 * (4 + 3) - 2 * (9 + 2) - (16 + 1));
        for (int stuff = 0; stuff < 5; stuff++) {
            check.due("surface " + stuff, roads.surface(0, stuff), 5 - stuff);
            check.due("layer " + stuff, roads.layer(0, 0, stuff), 5 - stuff);
            check.due("fell " + stuff, roads.stuff(stuff, 2), 5 - stuff);
        }
        check.due("hard: 20 / 15", roads.road(0, 4), 1);
    }

    private void nothingLies() {
        check.sentence("Nothing lies there then; what lay there is the YEAR's LAYER");
        LostRoads roads = Check.told(TWO + "road a b long 1 holes 500;mend lost;");
        roads.lose(0, 0, 3);
        roads.years(1);
        check.due("3 times 3", roads.road(0, 3), 491);
        roads.years(1);
        check.due("3 lie there again, not 6", roads.road(0, 3), 482);
        roads.lose(0, 0, 0);
        roads.years(1);
        check.due("nothing", roads.road(0, 3), 482);
        check.due("an empty layer", roads.layer(2, 0, 0), 0);
        check.due("the layer ahead", roads.layer(1, 0, 0), 3);
    }

    private void onPurpose() {
        check.sentence("So many parts (0 to 99) of a STUFF are to be lost on a road each YEAR");
        LostRoads roads = Check.told(TWO + "road a b long 1 holes 500;mend 1;");
        check.due("99", roads.lose(0, 0, 99), true);
        roads.years(1);
        check.due("401", roads.road(0, 3), 401);
        check.due("100", roads.lose(0, 0, 100), false);
        check.due("-1", roads.lose(0, 0, -1), false);
        roads.years(1);
        check.due("99 as ahead", roads.road(0, 3), 302);
        check.due("0", roads.lose(0, 0, 0), true);
        roads.years(1);
        check.due("none", roads.road(0, 3), 302);
        check.due("fell in all", roads.stuff(0, 2), 198);
        check.sentence("What is to be lost on purpose falls on its road, too");
        roads = Check.told(TWO + "road a b long 1 holes 500;mend 0;");
        roads.lose(0, 0, 99);
        roads.years(1);
        check.due("it does not pass: no holes by it", roads.road(0, 3), 500);
        check.due("its layer", roads.layer(0, 0, 0), 99);
    }

    private void layersKept() {
        check.sentence("LAYER (those of the first 40 YEARS are kept); NONE: others, not kept, not yet");
        LostRoads roads = Check.told(TWO + "road a b long 1 holes 0;");
        check.due("not yet", roads.layer(0, 0, 0), -1);
        for (int year = 0; year < 42; year++) {
            roads.lose(0, 0, year + 1);
            check.due("not yet " + year, roads.layer(year, 0, 0), -1);
            roads.years(1);
            check.due("layer of " + year, roads.layer(year, 0, 0), year < 40 ? year + 1 : -1);
        }
        check.due("the first", roads.layer(0, 0, 0), 1);
        check.due("the last that is kept", roads.layer(39, 0, 0), 40);
        check.due("of the other stuff", roads.layer(39, 0, 1), 0);
        roads.years(50);
        check.due("kept on", roads.layer(39, 0, 0), 40);
        check.due("not kept", roads.layer(40, 0, 0), -1);
        check.due("not kept", roads.layer(91, 0, 0), -1);
        check.due("not yet", roads.layer(92, 0, 0), -1);
        LostRoads most = Check.told(TWO + "road a b long 1 holes 0;");
        most.lose(0, 0, 7);
        most.years(50);
        check.due("50 years in one call", most.layer(39, 0, 0), 7);
        check.due("50 years in one call", most.layer(40, 0, 0), -1);
        check.due("what fell is not bound to be kept", most.stuff(0, 2), 350);
    }

    private void layersApart() {
        check.sentence("Parts of a STUFF in the LAYER of a YEAR on a road");
        // In each of the years that are kept something else is lost on one road, of one stuff.
        LostRoads roads = Check.told("stuff o hard 0 soft 0;stuff p hard 0 soft 0;stuff q hard 0 soft 0;"
                + "stuff r hard 0 soft 0;stuff s hard 0 soft 0;place a;place b;" + "road a b long 1 holes 0;".repeat(10));
        for (int year = 0; year < 40; year++) {
            roads.lose(year * 7 % 10, year * 3 % 5, year + 1);
            roads.years(1);
            roads.lose(year * 7 % 10, year * 3 % 5, 0);
        }
        for (int year = 0; year < 40; year++) {
            int road = year * 7 % 10;
            int stuff = year * 3 % 5;
            check.due("layer of " + year, roads.layer(year, road, stuff), year + 1);
            check.due("the road beside", roads.layer(year, (road + 1) % 10, stuff), 0);
            check.due("the stuff beside", roads.layer(year, road, (stuff + 1) % 5), 0);
            check.due("the first road", roads.layer(year, 0, 0), road == 0 && stuff == 0 ? year + 1 : 0);
            check.due("the last road", roads.layer(year, 9, 4), road == 9 && stuff == 4 ? year + 1 : 0);
        }
    }

    /** All ten roads, all six trades, all five stuffs: the last of each is like the others. */
    private void fullNet() {
        check.sentence("stuff: 5 at most; place: 7 at most; road: 10 at most; trade: 6 at most");
        StringBuilder text = new StringBuilder();
        for (int i = 0; i < 5; i++) {
            text.append("stuff ").append((char) ('p' + i)).append(" hard ").append(i).append(" soft 0;");
        }
        for (int i = 0; i < 7; i++) {
            text.append("place ").append((char) ('a' + i)).append(";");
        }
        for (int i = 0; i < 10; i++) {
            text.append("road ").append((char) ('a' + i % 6)).append(" g long ").append(i + 1).append(" holes 0;");
        }
        for (int i = 0; i < 6; i++) {
            text.append("trade ").append((char) ('a' + i)).append(" g of ").append((char) ('p' + i % 5))
                    .append(" load ").append(100 + i * 10).append(";");
        }
        LostRoads roads = Check.told(text + "shock 10;mend 0;");
        for (int year = 1; year < 3; year++) {
            roads.years(1);
            for (int i = 0; i < 6; i++) {
                check.due("came of " + i, roads.trade(i, 4), 90 + i * 9);
                check.due("came in all of " + i, roads.trade(i, 5), year * (90 + i * 9));
                check.due("surface of " + i, roads.surface(i, i % 5), year * (10 + i));
                check.due("layer of " + i, roads.layer(year - 1, i, i % 5), 10 + i);
                check.due("holes of " + i, roads.road(i, 3), year * (10 + i));
            }
            for (int i = 6; i < 10; i++) {
                check.due("holes of " + i, roads.road(i, 3), 0);
            }
            check.due("fell of the first", roads.stuff(0, 2), year * 25);
            check.due("fell of the last", roads.stuff(4, 2), year * 14);
        }
        roads.lose(9, 4, 99);
        roads.years(1);
        check.due("the last road, the last stuff", roads.surface(9, 4), 99);
        check.due("its layer", roads.layer(2, 9, 4), 99);
        check.due("how hard it is", roads.road(9, 4), 4);
    }
}
