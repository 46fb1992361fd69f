import java.util.NoSuchElementException;
import java.util.Random;

/** Random runs of calls, each asked of the program and of the model (promises 1 to 23). */
final class ModelTest {
    private static final String[] SCRAPS = {"stuff", "place", "road", "trade", "way", "shock", "mend", "hard",
        "soft", "long", "holes", "of", "load", "not", "and", "or", "(", ")", "<", "=", "+", "-", "*", ";", "0",
        "10", "1000", "12345", "abcdefghi", "lost", "strong", "brittle", "A", "?", "pa", "sa", "s1", "9x", "\n"};

    private final Random random;
    private final Check check;
    private LostRoads roads = new LostRoads();
    private Model model = new Model();

    private ModelTest(long seed, Check check) {
        this.random = new Random(seed);
        this.check = check;
    }

    public static void main(String[] args) {
        int runs = args.length > 0 ? Integer.parseInt(args[0]) : 150;
        Check check = new Check("ModelTest");
        for (int seed = 0; seed < runs; seed++) {
            new ModelTest(seed, check).run();
        }
        ModelTest texts = new ModelTest(-1, check);
        for (int i = 0; i < runs * 40; i++) {
            texts.readSpoilt();
        }
        check.end();
    }

    private void run() {
        roads = new LostRoads();
        model = new Model();
        int calls = 0;
        while (calls < 300) {
            if (calls == 0 || random.nextInt(150) == 0) {
                calls += tell(random.nextInt(4) == 0 ? spoilt(text()) : text());
            }
            ask(random.nextInt(20) == 0);
            calls++;
        }
    }

    private void readSpoilt() {
        roads = new LostRoads();
        model = new Model();
        tell(spoilt(text()));
    }

    private int tell(String text) {
        for (int at = 0; at < text.length(); at += 24) {
            long a = Check.eight(text, at);
            long b = Check.eight(text, at + 8);
            long c = Check.eight(text, at + 16);
            check.due("feed", roads.feed(a, b, c), model.feed(a, b, c));
        }
        check.due("net of " + text, roads.net(), model.net());
        return text.length() / 24 + 2;
    }

    private int upTo(int most) {
        return random.nextInt(most + 1);
    }

    private String text() {
        StringBuilder s = new StringBuilder();
        int stuffs = upTo(8) == 0 ? 0 : 1 + upTo(4);
        int places = 2 + upTo(5);
        int many = upTo(10);
        int trades = stuffs == 0 ? 0 : upTo(6);
        for (int i = 0; i < stuffs; i++) {
            s.append("stuff s").append((char) ('a' + i)).append(" hard ").append(upTo(9)).append(" soft ")
                    .append(upTo(9)).append(";");
        }
        for (int i = 0; i < places; i++) {
            s.append("place p").append((char) ('a' + i)).append(";\n");
        }
        for (int i = 0; i < many; i++) {
            s.append("road ").append(twoPlaces(places)).append(" long ").append(1 + upTo(random.nextBoolean() ? 3 : 98))
                    .append(" holes ").append(upTo(random.nextBoolean() ? 60 : 999)).append(";");
        }
        for (int i = 0; i < trades; i++) {
            s.append("trade ").append(twoPlaces(places)).append(" of s").append((char) ('a' + random.nextInt(stuffs)))
                    .append(" load ").append(1 + upTo(998)).append(";");
        }
        laws(s, 960 - s.length());
        return s.toString();
    }

    private void laws(StringBuilder s, int room) {
        int[] order = random.nextBoolean() ? new int[] {0, 1, 2} : new int[] {2, 0, 1};
        int left = room;
        for (int law : order) {
            String e = new String[] {"way ", "shock ", "mend "}[law] + e(law, 0) + ";";
            if (random.nextBoolean() && e.length() < left) {
                s.append(e);
                left -= e.length();
            }
        }
    }

    private String twoPlaces(int places) {
        int one = random.nextInt(places);
        int other = (one + 1 + random.nextInt(places - 1)) % places;
        return "p" + (char) ('a' + one) + " p" + (char) ('a' + other);
    }

    private String e(int law, int depth) {
        StringBuilder s = new StringBuilder(test(law, depth));
        while (random.nextInt(5) == 0) {
            s.append(random.nextBoolean() ? " and " : " or ").append(test(law, depth));
        }
        return s.toString();
    }

    private String test(int law, int depth) {
        String s = sum(law, depth);
        if (random.nextInt(4) == 0) {
            s += (random.nextBoolean() ? "<" : "=") + sum(law, depth);
        }
        return s;
    }

    private String sum(int law, int depth) {
        StringBuilder s = new StringBuilder(product(law, depth));
        while (random.nextInt(3) == 0) {
            s.append(random.nextBoolean() ? "+" : "-").append(product(law, depth));
        }
        return s.toString();
    }

    private String product(int law, int depth) {
        StringBuilder s = new StringBuilder(part(law, depth));
        while (random.nextInt(4) == 0) {
            s.append("*").append(part(law, depth));
        }
        return s.toString();
    }

    private String part(int law, int depth) {
        int kind = random.nextInt(depth >= 4 ? 5 : 8);
        if (kind == 5) {
            return " not " + part(law, depth + 1);
        }
        if (kind > 5) {
            return "(" + e(law, depth + 1) + ")";
        }
        if (kind < 2) {
            return Integer.toString(upTo(random.nextInt(5) == 0 ? 9999 : 12));
        }
        String[] facts = new String[][] {{"long", "holes", "hard", "soft", "load"},
            {"long", "holes", "hard", "soft", "brittle"},
            {"long", "holes", "hard", "soft", "brittle", "lost", "strong"}}[law];
        return facts[random.nextInt(facts.length)];
    }

    private String spoilt(String text) {
        StringBuilder s = new StringBuilder(text);
        int times = 1 + upTo(2);
        for (int i = 0; i < times; i++) {
            int at = random.nextInt(s.length());
            switch (random.nextInt(4)) {
                case 0: s.setLength(at + 1); break;
                case 1: s.deleteCharAt(at); break;
                case 2: s.insert(at, " " + SCRAPS[random.nextInt(SCRAPS.length)] + " "); break;
                default: s.insert(at, SCRAPS[random.nextInt(SCRAPS.length)]); break;
            }
            if (s.length() == 0) {
                s.append(' ');
            }
        }
        return s.toString();
    }

    /** A number of some thing: mostly one of those that are, now and then one beside them. */
    private int some(int many, boolean wild) {
        if (wild) {
            return new int[] {-1, many, Integer.MIN_VALUE, Integer.MAX_VALUE, -2, many + 1}[random.nextInt(6)];
        }
        return many <= 0 ? 0 : random.nextInt(many);
    }

    private void ask(boolean wild) {
        int r = some(model.count(2), wild && random.nextBoolean());
        int s = some(model.count(0), wild && random.nextBoolean());
        int t = some(model.count(3), wild && random.nextBoolean());
        int what = some(8, wild && random.nextBoolean());
        int years = wild ? some(51, random.nextBoolean()) : 1 + upTo(random.nextInt(10) == 0 ? 49 : 5);
        String with = " of r " + r + " s " + s + " t " + t + " what " + what + " years " + years;
        switch (random.nextInt(24)) {
            case 0: check.due("stuff" + with, roads.stuff(s, what), model.stuff(s, what)); break;
            case 1: check.due("road" + with, roads.road(r, what), model.road(r, what)); break;
            case 2: check.due("surface" + with, roads.surface(r, s), model.surface(r, s)); break;
            case 3: check.due("trade" + with, roads.trade(t, what), model.trade(t, what)); break;
            case 4: check.due("way" + with, roads.way(t, what), model.way(t, what)); break;
            case 5: check.due("way 0" + with, roads.way(t, 0), model.way(t, 0)); break;
            case 6: same("cost" + with, () -> roads.cost(t), () -> model.cost(t)); break;
            case 7: check.due("shock" + with, roads.shock(r, s), model.shock(r, s)); break;
            case 8: check.due("years" + with, roads.years(years), model.years(years)); break;
            case 9: {
                int parts = wild ? some(100, true) : upTo(random.nextBoolean() ? 4 : 99);
                check.due("lose" + with, roads.lose(r, s, parts), model.lose(r, s, parts));
                break;
            }
            case 10: {
                int year = wild ? some(40, true) : some(Math.min(41, model.count(4) + 1), false);
                check.due("layer " + year + with, roads.layer(year, r, s), model.layer(year, r, s));
                break;
            }
            case 11: check.due("starves" + with, roads.starves(r, years), model.starves(r, years)); break;
            case 12: check.due("purpose" + with, roads.purpose(r, s, years), model.purpose(r, s, years)); break;
            case 13: check.due("table" + with, roads.table(s, years), model.table(s, years)); break;
            case 14: check.due("table -1" + with, roads.table(-1, years), model.table(-1, years)); break;
            case 15:
            case 16: newcomer(s, years, wild); break;
            case 17: same("swept" + with, () -> roads.swept(r, years), () -> model.swept(r, years)); break;
            case 18: tellLayer(r, wild); break;
            case 19: check.due("went" + with, roads.went(r, what % 4), model.went(r, what % 4)); break;
            case 20: wars(years, wild); break;
            case 21: {
                int mark = some(4, wild);
                boolean back = random.nextBoolean();
                check.due("mark " + mark + back, roads.mark(mark, back), model.mark(mark, back));
                break;
            }
            default: check.due("count" + with, roads.count(what), model.count(what)); break;
        }
    }

    private void newcomer(int s, int years, boolean wild) {
        int from = some(model.count(1), wild && random.nextBoolean());
        int to = some(model.count(1), wild && random.nextBoolean());
        int load = wild ? some(1000, random.nextBoolean()) : 1 + upTo(998);
        int what = wild ? some(2, random.nextBoolean()) : upTo(1);
        same("newcomer " + from + " " + to + " " + s + " " + load + " " + years + " " + what,
                () -> roads.newcomer(from, to, s, load, years, what),
                () -> model.newcomer(from, to, s, load, years, what));
    }

    /** Mostly a layer that some set of trades leaves, so that there is something to be found. */
    private void tellLayer(int r, boolean wild) {
        int set = random.nextInt(64);
        for (int s = 0; s < model.count(0); s++) {
            int parts = 0;
            for (int t = 0; t < model.count(3); t++) {
                boolean carries = (set >> t & 1) == 1 && model.trade(t, 2) == s;
                parts += carries ? model.trade(t, 3) * Math.max(0, model.shock(r, s)) / 100 : 0;
            }
            check.due("told", roads.told(s, parts), model.told(s, parts));
        }
        if (wild) {
            int s = some(model.count(0), random.nextBoolean());
            int parts = some(10000, random.nextBoolean());
            check.due("told " + s + " " + parts, roads.told(s, parts), model.told(s, parts));
        }
        for (int what = 0; what < 3; what++) {
            check.due("went " + what, roads.went(r, what), model.went(r, what));
        }
    }

    private void wars(int years, boolean wild) {
        int seed = wild ? some(10000, random.nextBoolean()) : upTo(9999);
        int runs = wild ? some(21, random.nextBoolean()) : 1 + upTo(3);
        int what = wild ? some(2, random.nextBoolean()) : upTo(1);
        check.due("wars " + seed + " " + runs + " " + years + " " + what, roads.wars(seed, runs, years, what),
                model.wars(seed, runs, years, what));
    }

    private void same(String call, Check.Call got, Check.Call want) {
        long due;
        try {
            due = want.answer();
        } catch (NoSuchElementException e) {
            check.noSuch(call, got);
            return;
        }
        try {
            check.due(call, got.answer(), due);
        } catch (NoSuchElementException e) {
            check.due(call + " threw", 1, 0);
        }
    }
}
