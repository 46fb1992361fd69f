/** Promises 19 and 20: told, went. */
final class WentTest {
    private static final String LAND = "stuff s hard 1 soft 0;stuff t hard 1 soft 9;place a;place b;"
            + "road a b long 1 holes 10;road a b long 2 holes 0;";

    public static void main(String[] args) {
        Check check = new Check("WentTest");
        sets(check);
        cutEach(check);
        bounds(check);
        wholeLoads(check);
        worn(check);
        check.end();
    }

    private static void went(Check check, LostRoads roads, int least, int many, int inAll) {
        check.due("least", roads.went(0, 0), least);
        check.due("how many", roads.went(0, 1), many);
        check.due("in all", roads.went(0, 2), inAll);
    }

    private static void sets(Check check) {
        LostRoads roads = Check.told(LAND + "trade a b of s load 100;trade b a of s load 200;trade a b of s load 300;"
                + "trade a b of t load 50;trade b a of t load 5;");
        // 10, 20, 30 of s; 5 and 0 of t.
        went(check, roads, 0, 2, 0);
        check.due("told", roads.told(0, 30), true);
        went(check, roads, 3, 4, 0);
        check.due("told", roads.told(1, 5), true);
        went(check, roads, 8 + 3, 4, 8);
        roads.told(0, 50);
        went(check, roads, 8 + 6, 2, 8 + 6);
        roads.told(0, 60);
        went(check, roads, 8 + 7, 2, 8 + 7);
        roads.told(0, 70);
        went(check, roads, -1, -1, -1);
        check.due("on the other road nothing falls", roads.went(1, 0), -1);
        roads.told(0, 0);
        roads.told(1, 0);
        check.due("on the other road nothing falls", roads.went(1, 1), 32);
        LostRoads none = Check.told(LAND);
        went(check, none, 0, 1, 0);
        none.told(1, 1);
        went(check, none, -1, -1, -1);
    }

    private static void cutEach(Check check) {
        LostRoads roads = Check.told(LAND + "trade a b of s load 15;trade b a of s load 15;");
        roads.told(0, 3);
        went(check, roads, -1, -1, -1);
        roads.told(0, 2);
        went(check, roads, 3, 1, 3);
    }

    private static void bounds(Check check) {
        LostRoads roads = Check.told(LAND + "trade a b of s load 100;");
        check.due("9999", roads.told(0, 9999), true);
        check.due("10000", roads.told(0, 10000), false);
        check.due("-1", roads.told(0, -1), false);
        check.due("no stuff", roads.told(2, 1), false);
        check.due("no stuff", roads.told(-1, 1), false);
        roads.told(0, 10);
        went(check, roads, 1, 1, 1);
        check.due("no road", roads.went(2, 0), -1);
        check.due("no road", roads.went(-1, 0), -1);
        check.due("what 3", roads.went(0, 3), -1);
        check.due("what -1", roads.went(0, -1), -1);
    }

    /** A trade that takes another road, and what is lost on purpose, are all the same here. */
    private static void wholeLoads(Check check) {
        LostRoads roads = Check.told("stuff s hard 9 soft 0;place a;place b;place c;road a b long 1 holes 10;"
                + "road b c long 1 holes 20;trade a c of s load 100;");
        roads.lose(1, 0, 9);
        roads.told(0, 20);
        check.due("the whole load on the second road", roads.went(1, 0), 1);
        roads.told(0, 10);
        check.due("the first", roads.went(0, 0), 1);
        roads.years(1);
        check.due("as it is now: no holes any more", roads.went(0, 0), -1);
    }

    private static void worn(Check check) {
        LostRoads roads = Check.told("stuff s hard 0 soft 0;place a;place b;road a b long 1 holes 999;"
                + "trade a b of s load 100;shock 50;");
        roads.years(1);
        check.due("worn through", roads.road(0, 6), 1);
        roads.told(0, 50);
        went(check, roads, 1, 1, 1);
    }
}
