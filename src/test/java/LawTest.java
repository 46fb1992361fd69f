/** The E of a law, as shock, cost and mending show it (promises 3, 9, 10, 11). */
final class LawTest {
    private static final String LAND = "stuff s hard 7 soft 4;place a;place b;road a b long 12 holes 30;"
            + "trade a b of s load 80;";

    public static void main(String[] args) {
        Check check = new Check("LawTest");
        values(check);
        facts(check);
        bounds(check);
        withoutLaws(check);
        mendFacts(check);
        check.end();
    }

    private static int shock(String e) {
        return Check.told(LAND + "shock " + e + ";").shock(0, 0);
    }

    private static int cost(String e) {
        return Check.told(LAND + "way " + e + ";").cost(0);
    }

    private static void values(Check check) {
        check.due("2+3*4", shock("2+3*4"), 14);
        check.due("(2+3)*4", shock("(2+3)*4"), 20);
        check.due("20-5-3", shock("20-5-3"), 12);
        check.due("20-(5-3)", shock("20-(5-3)"), 18);
        check.due("not 0", shock("not 0"), 1);
        check.due("not 5", shock("not 5"), 0);
        check.due("not 5*3+7: not binds a PART alone", shock("not 5*3+7"), 7);
        check.due("not not 5", shock("not not 5"), 1);
        check.due("1<2", shock("1<2"), 1);
        check.due("2<2", shock("2<2"), 0);
        check.due("2=2", shock("2=2"), 1);
        check.due("2=3", shock("2=3"), 0);
        check.due("3 and 5", shock("3 and 5"), 1);
        check.due("3 and 0", shock("3 and 0"), 0);
        check.due("0 or 7", shock("0 or 7"), 1);
        check.due("0 or 0", shock("0 or 0"), 0);
        check.due("from the left: 1 or 1 and 0", shock("1 or 1 and 0"), 0);
        check.due("from the left: 0 and 0 or 1", shock("0 and 0 or 1"), 1);
        check.due("0 and (0 or 1)", shock("0 and (0 or 1)"), 0);
        check.due("1+1=2 and 3<4", shock("1+1=2 and 3<4"), 1);
        check.due("0-1 is so", shock("(0-1) and 1"), 1);
        check.due("0-1<0", shock("0-1<0"), 1);
        // 9999 * 9999 * 9999 wraps to -1027349969: below 0.
        check.due("ints wrap", shock("9999*9999*9999 < 0"), 1);
        check.due("ints wrap to what they do", shock("0-9999*9999*9999-6374*9999*10-9967-9999*9100"),
                Math.max(0, Math.min(100, -(9999 * 9999 * 9999) - 6374 * 9999 * 10 - 9967 - 9999 * 9100)));
    }

    private static void facts(Check check) {
        check.due("long", shock("long"), 12);
        check.due("holes", shock("holes"), 30);
        check.due("hard without a surface", shock("hard"), 0);
        check.due("soft without a surface", shock("soft"), 0);
        check.due("brittle", shock("brittle"), 5);
        check.due("load", cost("load"), 80);
        StringBuilder longest = new StringBuilder("1");
        while (LAND.length() + longest.length() < 990) {
            longest.append("+1");
        }
        check.due("the longest", cost(longest.toString()), (longest.length() + 1) / 2);
        check.due("the widest", shock("0 or 0<0+0*(0 or 0<0+0*(0 or 0<0+0*(0 or 0<0+0*(0 or 0<0+1*1))))"), 0);
        check.due("the widest", shock("0 or 0<0+1*(0 or 0<0+1*(0 or 0<0+1*(0 or 0<0+1*(0 or 0<0+1*1))))"), 1);
        check.due("way by all", cost("load*100+long+holes+hard+soft"), 8042);
        LostRoads roads = Check.told(LAND + "shock 50+hard*2+soft;");
        roads.years(1);
        check.due("shock by its surface", roads.shock(0, 0), 68);
        roads = Check.told(LAND + "way 50+hard*2+soft;");
        roads.years(1);
        check.due("way by its surface", roads.cost(0), 68);
    }

    private static void bounds(Check check) {
        check.due("shock below 0", shock("0-1"), 0);
        check.due("shock 100", shock("100"), 100);
        check.due("shock above 100", shock("101"), 100);
        check.due("way 0", cost("0"), 1);
        check.due("way below", cost("0-500"), 1);
        check.due("way 9999", cost("9999"), 9999);
        check.due("way above", cost("9999+1"), 9999);
    }

    private static void withoutLaws(Check check) {
        LostRoads roads = Check.told(LAND);
        check.due("way: long", roads.cost(0), 12);
        check.due("shock: holes", roads.shock(0, 0), 30);
        roads.lose(0, 0, 1);
        check.due("fell", roads.years(1), 1);
        // 24 of 80 fall, one on purpose: 25 parts, 7 each: the 38 holes are filled.
        check.due("mend: strong", roads.road(0, 3), 0);
    }

    private static int mended(String law, int lost) {
        LostRoads roads = Check.told("stuff s hard 7 soft 4;place a;place b;road a b long 12 holes 900;mend "
                + law + ";");
        roads.lose(0, 0, lost);
        roads.years(1);
        return 900 - roads.road(0, 3);
    }

    private static void mendFacts(Check check) {
        check.due("mend 1", mended("1", 3), 3);
        check.due("strong", mended("strong", 3), 21);
        check.due("brittle", mended("brittle", 3), 15);
        check.due("lost", mended("lost", 3), 9);
        check.due("long", mended("long", 2), 24);
        check.due("holes", mended("holes-890", 2), 20);
        check.due("hard of the beginning", mended("hard", 3), 0);
        check.due("soft of the beginning", mended("soft", 3), 0);
        check.due("below 0", mended("0-5", 3), 0);
        check.due("99", mended("99", 3), 297);
        check.due("above 99", mended("100", 3), 297);
        check.due("not below 0 holes", mended("99", 10), 900);
        LostRoads roads = Check.told("stuff s hard 7 soft 4;place a;place b;road a b long 12 holes 900;mend hard+soft;");
        roads.lose(0, 0, 2);
        roads.years(1);
        check.due("no surface yet", roads.road(0, 3), 900);
        roads.years(1);
        check.due("a surface", roads.road(0, 3), 900 - 2 * 11);
        // 500 pass: 50 holes more, but the law sees those of the beginning: 900, not 950.
        roads = Check.told("stuff s hard 7 soft 4;place a;place b;road a b long 12 holes 900;"
                + "trade a b of s load 500;shock 1;mend holes=900;");
        roads.years(1);
        check.due("holes of the beginning", roads.road(0, 3), 900 + 50 - 5);
    }
}
