/** Promises 4 to 7 and 23: stuff, road, surface, trade, count. */
final class ThingsTest {
    private static final String LAND = "stuff glass hard 8 soft 1;stuff hats hard 1 soft 9;"
            + "place x;place y;place z;place w;"
            + "road x y long 10 holes 20;road z y long 99 holes 999;road x w long 1 holes 0;"
            + "trade y x of hats load 999;trade x z of glass load 1;shock 10;";

    public static void main(String[] args) {
        Check check = new Check("ThingsTest");
        stuffs(check);
        roads(check);
        surfaces(check);
        trades(check);
        counts(check);
        check.end();
    }

    private static void stuffs(Check check) {
        LostRoads roads = Check.told(LAND);
        int[][] want = {{8, 1, 0}, {1, 9, 0}};
        for (int s = 0; s < 2; s++) {
            for (int what = 0; what < 3; what++) {
                check.due("stuff " + s + " " + what, roads.stuff(s, what), want[s][what]);
            }
        }
        check.due("stuff -1", roads.stuff(-1, 0), -1);
        check.due("stuff 2", roads.stuff(2, 0), -1);
        check.due("stuff what 3", roads.stuff(0, 3), -1);
        check.due("stuff what -1", roads.stuff(0, -1), -1);
        roads.lose(2, 0, 5);
        roads.years(2);
        check.due("glass that fell, on purpose too", roads.stuff(0, 2), 10);
        check.due("hats that fell", roads.stuff(1, 2), 99 * 2);
    }

    private static void roads(Check check) {
        LostRoads roads = Check.told(LAND);
        int[][] want = {{0, 1, 10, 20, 0, 0, 0}, {2, 1, 99, 999, 0, 0, 0}, {0, 3, 1, 0, 0, 0, 0}};
        for (int r = 0; r < 3; r++) {
            for (int what = 0; what < 7; what++) {
                check.due("road " + r + " " + what, roads.road(r, what), want[r][what]);
            }
        }
        check.due("road 3", roads.road(3, 0), -1);
        check.due("road -1", roads.road(-1, 0), -1);
        check.due("road what 7", roads.road(0, 7), -1);
        check.due("road what -1", roads.road(0, -1), -1);
        LostRoads worn = Check.told("stuff s hard 0 soft 0;place a;place b;road a b long 1 holes 990;"
                + "trade a b of s load 99;shock 0;");
        worn.years(1);
        check.due("999 holes", worn.road(0, 3), 999);
        check.due("holds", worn.road(0, 6), 0);
        worn.years(1);
        check.due("1008 holes", worn.road(0, 3), 1008);
        check.due("worn through", worn.road(0, 6), 1);
        worn.years(1);
        check.due("nothing passes any more", worn.road(0, 3), 1008);
        worn = Check.told("stuff s hard 0 soft 0;place a;place b;road a b long 1 holes 990;"
                + "trade a b of s load 100;shock 0;");
        worn.years(1);
        check.due("1000 holes", worn.road(0, 3), 1000);
        check.due("worn through at 1000", worn.road(0, 6), 1);
    }

    private static void surfaces(Check check) {
        LostRoads roads = Check.told(LAND);
        roads.lose(0, 0, 30);
        check.due("surface", roads.surface(0, 0), 0);
        roads.years(1);
        // 99 of 999 hats, 30 of glass, and of the one glass of the second trade nothing.
        check.due("glass", roads.surface(0, 0), 30);
        check.due("hats", roads.surface(0, 1), 99);
        check.due("hard: (240 + 99) / 129", roads.road(0, 4), 2);
        check.due("soft: (30 + 891) / 129", roads.road(0, 5), 7);
        roads.years(1);
        check.due("glass", roads.surface(0, 0), 60);
        check.due("elsewhere", roads.surface(2, 0), 0);
        LostRoads few = Check.told("stuff s hard 0 soft 6;stuff t hard 1 soft 9;place a;place b;"
                + "road a b long 1 holes 9;");
        few.lose(0, 0, 1);
        few.years(1);
        check.due("soft by one part", few.road(0, 5), 6);
        few.lose(0, 0, 0);
        few.lose(0, 1, 1);
        few.years(1);
        check.due("hard: 1 / 2, cut", few.road(0, 4), 0);
        check.due("soft: 15 / 2, cut", few.road(0, 5), 7);
        check.due("surface of no road", roads.surface(3, 0), -1);
        check.due("surface of no road", roads.surface(-1, 0), -1);
        check.due("surface of no stuff", roads.surface(0, 2), -1);
        check.due("surface of no stuff", roads.surface(0, -1), -1);
    }

    private static void trades(Check check) {
        LostRoads roads = Check.told(LAND);
        int[][] want = {{1, 0, 1, 999, -1, 0}, {0, 2, 0, 1, -1, 0}};
        for (int t = 0; t < 2; t++) {
            for (int what = 0; what < 6; what++) {
                check.due("trade " + t + " " + what, roads.trade(t, what), want[t][what]);
            }
        }
        check.due("trade 2", roads.trade(2, 0), -1);
        check.due("trade -1", roads.trade(-1, 0), -1);
        check.due("trade what 6", roads.trade(0, 6), -1);
        check.due("trade what -1", roads.trade(0, -1), -1);
        roads.years(1);
        check.due("came", roads.trade(0, 4), 900);
        check.due("came in all", roads.trade(0, 5), 900);
        roads.years(1);
        check.due("came", roads.trade(0, 4), 900);
        check.due("came in all", roads.trade(0, 5), 1800);
        LostRoads stranded = Check.told("stuff s hard 0 soft 0;place a;place b;trade a b of s load 9;");
        stranded.years(1);
        check.due("stranded", stranded.trade(0, 4), -1);
        check.due("nothing in all", stranded.trade(0, 5), 0);
        LostRoads zero = Check.told("stuff s hard 0 soft 0;place a;place b;road a b long 1 holes 0;"
                + "trade a b of s load 9;shock 100;");
        zero.years(1);
        check.due("all fell, yet not stranded", zero.trade(0, 4), 0);
    }

    private static void counts(Check check) {
        LostRoads roads = Check.told(LAND);
        int[] want = {2, 4, 3, 2, 0, 0, 1019, 0};
        for (int what = 0; what < 8; what++) {
            check.due("count " + what, roads.count(what), want[what]);
        }
        check.due("count 8", roads.count(8), -1);
        check.due("count -1", roads.count(-1), -1);
        Check.feed(roads, "place");
        check.due("signs", roads.count(7), 5);
        LostRoads worn = Check.told("stuff s hard 0 soft 0;place a;place b;road a b long 1 holes 999;"
                + "road a b long 2 holes 7;trade a b of s load 999;shock 0;");
        worn.years(1);
        check.due("holes, no bound", worn.road(0, 3), 1098);
        check.due("worn through", worn.count(5), 1);
        check.due("1000 at most each", worn.count(6), 1007);
        check.due("year", worn.count(4), 1);
    }
}
