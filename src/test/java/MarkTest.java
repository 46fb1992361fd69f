/** Promise 22: mark. */
final class MarkTest {
    private static final String LAND = "stuff s hard 1 soft 5;place a;place b;road a b long 1 holes 50;"
            + "trade a b of s load 300;shock 10;mend 0;";

    public static void main(String[] args) {
        Check check = new Check("MarkTest");
        bounds(check);
        holdsAll(check);
        marksStay(check);
        netTakesThemAway(check);
        check.end();
    }

    private static void bounds(Check check) {
        LostRoads roads = new LostRoads();
        for (int mark = 0; mark < 4; mark++) {
            check.due("nothing is on it", roads.mark(mark, true), false);
            check.due("laid", roads.mark(mark, false), true);
            check.due("back", roads.mark(mark, true), true);
        }
        check.due("-1", roads.mark(-1, false), false);
        check.due("-1", roads.mark(-1, true), false);
        check.due("4", roads.mark(4, false), false);
        check.due("4", roads.mark(4, true), false);
        check.due("most", roads.mark(Integer.MAX_VALUE, false), false);
    }

    private static void holdsAll(Check check) {
        LostRoads roads = Check.told(LAND);
        roads.lose(0, 0, 3);
        roads.told(0, 30);
        roads.years(2);
        roads.mark(2, false);
        int holes = roads.road(0, 3);
        int surface = roads.surface(0, 0);
        roads.lose(0, 0, 9);
        roads.told(0, 31);
        roads.years(5);
        Check.feed(roads, "place c");
        check.due("back", roads.mark(2, true), true);
        check.due("year", roads.count(4), 2);
        check.due("holes", roads.road(0, 3), holes);
        check.due("surface", roads.surface(0, 0), surface);
        check.due("fell", roads.stuff(0, 2), 66);
        check.due("came", roads.trade(0, 4), 270);
        check.due("came in all", roads.trade(0, 5), 540);
        check.due("layer", roads.layer(1, 0, 0), 33);
        check.due("a layer that is not yet", roads.layer(2, 0, 0), -1);
        check.due("what is told", roads.went(0, 0), 1);
        check.due("all but the tape", roads.count(7), 7);
        roads.years(1);
        check.due("what is lost on purpose", roads.layer(2, 0, 0), 33);
        check.due("the tape can be read on", Check.net(roads, ";"), 0);
        check.due("its place", roads.count(1), 1);
    }

    private static void marksStay(Check check) {
        LostRoads roads = Check.told(LAND);
        roads.mark(0, false);
        roads.years(3);
        roads.mark(1, false);
        roads.years(4);
        check.due("back to 0", roads.mark(0, true), true);
        check.due("year", roads.count(4), 0);
        check.due("on to 1", roads.mark(1, true), true);
        check.due("year", roads.count(4), 3);
        check.due("its layers", roads.layer(2, 0, 0), 30);
        check.due("back to 0 once more", roads.mark(0, true), true);
        check.due("year", roads.count(4), 0);
        roads.years(1);
        check.due("laid anew", roads.mark(0, false), true);
        roads.years(1);
        roads.mark(0, true);
        check.due("year", roads.count(4), 1);
        check.due("one that was not laid", roads.mark(3, true), false);
        roads.mark(1, true);
        roads.years(1);
        roads.mark(2, false);
        roads.mark(0, true);
        roads.lose(0, 0, 44);
        roads.years(6);
        check.due("other layers", roads.layer(2, 0, 0), 74);
        roads.mark(2, true);
        check.due("its own layers", roads.layer(2, 0, 0), 30);
        check.due("and no more", roads.layer(4, 0, 0), -1);
        LostRoads stranded = Check.told("stuff s hard 1 soft 5;place a;place b;road a b long 1 holes 999;"
                + "trade a b of s load 300;shock 0;");
        stranded.years(1);
        stranded.mark(0, false);
        stranded.years(1);
        check.due("stranded", stranded.trade(0, 4), -1);
        stranded.mark(0, true);
        check.due("not yet", stranded.trade(0, 4), 300);
    }

    private static void netTakesThemAway(Check check) {
        LostRoads roads = Check.told(LAND);
        roads.mark(0, false);
        roads.mark(3, false);
        check.due("net at fault", Check.net(roads, "x"), 1);
        check.due("they stay", roads.mark(3, true), true);
        check.due("net", Check.net(roads, LAND), 0);
        check.due("gone", roads.mark(0, true), false);
        check.due("gone", roads.mark(3, true), false);
        check.due("laid", roads.mark(3, false), true);
        check.due("back", roads.mark(3, true), true);
    }
}
