import java.util.ArrayList;
import java.util.Arrays;
import java.util.HashMap;
import java.util.List;
import java.util.Map;
import java.util.NoSuchElementException;
import java.util.Set;
import java.util.TreeMap;
import java.util.function.ToIntFunction;
import java.util.regex.Matcher;
import java.util.regex.Pattern;

/**
 * The document once more, in its plainest form and by other means (trees of functions, all ways tried),
 * so that the program's answers can be compared with it on nets that nobody thought of.
 */
final class Model {
    static final Set<String> RESERVED = Set.of("stuff", "hard", "soft", "place", "road", "long", "holes",
            "trade", "of", "load", "way", "shock", "mend", "not", "and", "or");
    private static final Pattern TOKEN = Pattern.compile("[a-z]+|[0-9]+|[()<=+*;-]|[^ \\n]");

    private static final class Fault extends RuntimeException {
        private static final long serialVersionUID = 1L;
        final int code;

        Fault(int kind, int place) {
            super(null, null, false, false);
            code = kind + 16 * place;
        }
    }

    interface E extends ToIntFunction<Map<String, Integer>> {
    }

    static final class Stuff {
        String name;
        int hard;
        int soft;
    }

    static final class Road {
        int from;
        int to;
        int length;
        int holes;
    }

    static final class Trade {
        int from;
        int to;
        int stuff;
        int load;

        Trade copy() {
            Trade t = new Trade();
            t.from = from;
            t.to = to;
            t.stuff = stuff;
            t.load = load;
            return t;
        }
    }

    static final class Told {
        List<Stuff> stuffs = new ArrayList<>();
        List<String> places = new ArrayList<>();
        List<Road> roads = new ArrayList<>();
        List<Trade> trades = new ArrayList<>();
        Map<String, E> laws = new HashMap<>();
    }

    /** Reads a text; one object a text. */
    static final class Parser {
        final String text;
        final List<String> tokens = new ArrayList<>();
        final List<Integer> places = new ArrayList<>();
        int at;
        Told told = new Told();

        Parser(String text) {
            this.text = text;
            Matcher m = TOKEN.matcher(text);
            while (m.find()) {
                tokens.add(m.group());
                places.add(m.start());
            }
            tokens.add("");
            places.add(text.length());
        }

        String here() {
            return tokens.get(at);
        }

        Fault fault(int kind) {
            return new Fault(kind, places.get(at));
        }

        void need(String wanted) {
            if (!here().equals(wanted)) {
                throw fault(1);
            }
            at++;
        }

        boolean isWord() {
            return here().matches("[a-z]{1,8}");
        }

        String name() {
            if (!isWord() || RESERVED.contains(here())) {
                throw fault(1);
            }
            return here();
        }

        int number(int least, int most) {
            if (!here().matches("[0-9]{1,4}")) {
                throw fault(1);
            }
            int value = Integer.parseInt(here());
            if (value < least || value > most) {
                throw fault(4);
            }
            at++;
            return value;
        }

        int place() {
            int found = told.places.indexOf(name());
            if (found < 0) {
                throw fault(2);
            }
            return found;
        }

        int stuffNumber(String name) {
            for (int i = 0; i < told.stuffs.size(); i++) {
                if (told.stuffs.get(i).name.equals(name)) {
                    return i;
                }
            }
            return -1;
        }

        String fresh() {
            String name = name();
            if (told.places.contains(name) || stuffNumber(name) >= 0) {
                throw fault(3);
            }
            at++;
            return name;
        }

        Told read() {
            while (!here().isEmpty()) {
                line();
            }
            return told;
        }

        void line() {
            String word = here();
            switch (word) {
                case "stuff": {
                    few(told.stuffs.size(), 5);
                    Stuff s = new Stuff();
                    s.name = fresh();
                    need("hard");
                    s.hard = number(0, 9);
                    need("soft");
                    s.soft = number(0, 9);
                    need(";");
                    told.stuffs.add(s);
                    break;
                }
                case "place": {
                    few(told.places.size(), 7);
                    String name = fresh();
                    need(";");
                    told.places.add(name);
                    break;
                }
                case "road": {
                    few(told.roads.size(), 10);
                    Road r = new Road();
                    r.from = place();
                    at++;
                    r.to = place();
                    if (r.to == r.from) {
                        throw fault(3);
                    }
                    at++;
                    need("long");
                    r.length = number(1, 99);
                    need("holes");
                    r.holes = number(0, 999);
                    need(";");
                    told.roads.add(r);
                    break;
                }
                case "trade": {
                    few(told.trades.size(), 6);
                    Trade t = new Trade();
                    t.from = place();
                    at++;
                    t.to = place();
                    if (t.to == t.from) {
                        throw fault(3);
                    }
                    at++;
                    need("of");
                    t.stuff = stuffNumber(name());
                    if (t.stuff < 0) {
                        throw fault(2);
                    }
                    at++;
                    need("load");
                    t.load = number(1, 999);
                    need(";");
                    told.trades.add(t);
                    break;
                }
                case "way":
                case "shock":
                case "mend": {
                    if (told.laws.containsKey(word)) {
                        throw fault(3);
                    }
                    at++;
                    E e = all(word, 0);
                    need(";");
                    told.laws.put(word, e);
                    break;
                }
                default:
                    throw fault(1);
            }
        }

        void few(int many, int most) {
            if (many >= most) {
                throw fault(5);
            }
            at++;
        }

        E all(String law, int depth) {
            E left = test(law, depth);
            while (here().equals("and") || here().equals("or")) {
                boolean and = here().equals("and");
                at++;
                E l = left;
                E r = test(law, depth);
                left = and ? f -> l.applyAsInt(f) != 0 && r.applyAsInt(f) != 0 ? 1 : 0
                        : f -> l.applyAsInt(f) != 0 || r.applyAsInt(f) != 0 ? 1 : 0;
            }
            return left;
        }

        E test(String law, int depth) {
            E l = sum(law, depth);
            if (here().equals("<")) {
                at++;
                E r = sum(law, depth);
                return f -> l.applyAsInt(f) < r.applyAsInt(f) ? 1 : 0;
            }
            if (here().equals("=")) {
                at++;
                E r = sum(law, depth);
                return f -> l.applyAsInt(f) == r.applyAsInt(f) ? 1 : 0;
            }
            return l;
        }

        E sum(String law, int depth) {
            E left = product(law, depth);
            while (here().equals("+") || here().equals("-")) {
                int sign = here().equals("+") ? 1 : -1;
                at++;
                E l = left;
                E r = product(law, depth);
                left = f -> l.applyAsInt(f) + sign * r.applyAsInt(f);
            }
            return left;
        }

        E product(String law, int depth) {
            E left = part(law, depth);
            while (here().equals("*")) {
                at++;
                E l = left;
                E r = part(law, depth);
                left = f -> l.applyAsInt(f) * r.applyAsInt(f);
            }
            return left;
        }

        E part(String law, int depth) {
            String token = here();
            boolean number = token.matches("[0-9]{1,4}");
            boolean fact = facts(law).contains(token);
            if (!number && !fact && !token.equals("not") && !token.equals("(")) {
                throw fault(1);
            }
            if (depth >= 5) {
                throw fault(5);
            }
            at++;
            if (number) {
                int value = Integer.parseInt(token);
                return f -> value;
            }
            if (fact) {
                return f -> f.get(token);
            }
            if (token.equals("not")) {
                E e = part(law, depth + 1);
                return f -> e.applyAsInt(f) == 0 ? 1 : 0;
            }
            E e = all(law, depth + 1);
            need(")");
            return e;
        }

        static Set<String> facts(String law) {
            switch (law) {
                case "way": return Set.of("long", "holes", "hard", "soft", "load");
                case "shock": return Set.of("long", "holes", "hard", "soft", "brittle");
                default: return Set.of("long", "holes", "hard", "soft", "brittle", "lost", "strong");
            }
        }
    }

    static final class World {
        int year;
        int[] holes = new int[10];
        int[][] surface = new int[10][5];
        int[][] lose = new int[10][5];
        int[] fell = new int[5];
        int[] last = new int[6];
        int[] all = new int[6];
        int[] layerTold = new int[5];
        Map<Integer, int[][]> layers = new TreeMap<>();

        World copy() {
            World w = new World();
            w.year = year;
            w.holes = holes.clone();
            for (int i = 0; i < 10; i++) {
                w.surface[i] = surface[i].clone();
                w.lose[i] = lose[i].clone();
            }
            w.fell = fell.clone();
            w.last = last.clone();
            w.all = all.clone();
            w.layerTold = layerTold.clone();
            w.layers = new TreeMap<>(layers);
            return w;
        }
    }

    private final StringBuilder tape = new StringBuilder();
    private Told told = new Told();
    private World now = new World();
    private final World[] marks = new World[4];

    int feed(long a, long b, long c) {
        for (long eight : new long[] {a, b, c}) {
            for (int i = 7; i >= 0; i--) {
                int sign = (int) (eight >>> 8 * i & 255);
                if ((sign == 10 || sign >= 32 && sign <= 126) && tape.length() < 1000) {
                    tape.append((char) sign);
                }
            }
        }
        return tape.length();
    }

    int net() {
        String text = tape.toString();
        tape.setLength(0);
        try {
            told = new Parser(text).read();
        } catch (Fault f) {
            return f.code;
        }
        now = new World();
        Arrays.fill(now.last, -1);
        for (int i = 0; i < told.roads.size(); i++) {
            now.holes[i] = told.roads.get(i).holes;
        }
        Arrays.fill(marks, null);
        return 0;
    }

    private static boolean in(int i, List<?> list) {
        return i >= 0 && i < list.size();
    }

    int stuff(int s, int what) {
        if (!in(s, told.stuffs) || what < 0 || what > 2) {
            return -1;
        }
        return what == 0 ? told.stuffs.get(s).hard : what == 1 ? told.stuffs.get(s).soft : now.fell[s];
    }

    int mean(World w, int road, boolean hard) {
        int sum = 0;
        int parts = 0;
        for (int s = 0; s < told.stuffs.size(); s++) {
            parts += w.surface[road][s];
            sum += w.surface[road][s] * (hard ? told.stuffs.get(s).hard : told.stuffs.get(s).soft);
        }
        return parts == 0 ? 0 : sum / parts;
    }

    int road(int r, int what) {
        if (!in(r, told.roads)) {
            return -1;
        }
        Road road = told.roads.get(r);
        switch (what) {
            case 0: return road.from;
            case 1: return road.to;
            case 2: return road.length;
            case 3: return now.holes[r];
            case 4: return mean(now, r, true);
            case 5: return mean(now, r, false);
            case 6: return now.holes[r] >= 1000 ? 1 : 0;
            default: return -1;
        }
    }

    int surface(int r, int s) {
        return in(r, told.roads) && in(s, told.stuffs) ? now.surface[r][s] : -1;
    }

    int trade(int t, int what) {
        if (!in(t, told.trades)) {
            return -1;
        }
        Trade trade = told.trades.get(t);
        switch (what) {
            case 0: return trade.from;
            case 1: return trade.to;
            case 2: return trade.stuff;
            case 3: return trade.load;
            case 4: return now.last[t];
            case 5: return now.all[t];
            default: return -1;
        }
    }

    private Map<String, Integer> facts(World w, int road) {
        Map<String, Integer> f = new HashMap<>();
        f.put("long", told.roads.get(road).length);
        f.put("holes", w.holes[road]);
        f.put("hard", mean(w, road, true));
        f.put("soft", mean(w, road, false));
        return f;
    }

    private static int clamp(int least, int v, int most) {
        return Math.max(least, Math.min(v, most));
    }

    private int price(World w, int road, int load) {
        Map<String, Integer> f = facts(w, road);
        f.put("load", load);
        E e = told.laws.getOrDefault("way", g -> g.get("long"));
        return clamp(1, e.applyAsInt(f), 9999);
    }

    private int shockOf(World w, int road, int stuff) {
        Map<String, Integer> f = facts(w, road);
        f.put("brittle", 9 - told.stuffs.get(stuff).soft);
        E e = told.laws.getOrDefault("shock", g -> g.get("holes"));
        return clamp(0, e.applyAsInt(f), 100);
    }

    private int mendOf(World w, int road, int stuff, int parts) {
        Map<String, Integer> f = facts(w, road);
        f.put("brittle", 9 - told.stuffs.get(stuff).soft);
        f.put("lost", parts);
        f.put("strong", told.stuffs.get(stuff).hard);
        E e = told.laws.getOrDefault("mend", g -> g.get("strong"));
        return clamp(0, e.applyAsInt(f), 99);
    }

    private static int sum(List<Integer> way, int[] prices) {
        int sum = 0;
        for (int r : way) {
            sum += prices[r];
        }
        return sum;
    }

    private static boolean better(List<Integer> a, List<Integer> b, int[] prices) {
        if (b == null) {
            return true;
        }
        if (sum(a, prices) != sum(b, prices)) {
            return sum(a, prices) < sum(b, prices);
        }
        if (a.size() != b.size()) {
            return a.size() < b.size();
        }
        for (int i = 0; i < a.size(); i++) {
            if (!a.get(i).equals(b.get(i))) {
                return a.get(i) < b.get(i);
            }
        }
        return false;
    }

    private List<Integer> search(World w, int at, int to, int seen, List<Integer> way, List<Integer> best,
            int[] prices) {
        if (at == to) {
            return better(way, best, prices) ? new ArrayList<>(way) : best;
        }
        List<Integer> found = best;
        for (int r = 0; r < told.roads.size(); r++) {
            Road road = told.roads.get(r);
            int other = road.from == at ? road.to : road.to == at ? road.from : -1;
            if (other < 0 || (seen >> other & 1) == 1 || w.holes[r] >= 1000) {
                continue;
            }
            way.add(r);
            found = search(w, other, to, seen | 1 << other, way, found, prices);
            way.remove(way.size() - 1);
        }
        return found;
    }

    private int[] prices(World w, int load) {
        int[] prices = new int[told.roads.size()];
        for (int r = 0; r < prices.length; r++) {
            prices[r] = price(w, r, load);
        }
        return prices;
    }

    private List<Integer> wayOf(World w, Trade t) {
        return search(w, t.from, t.to, 1 << t.from, new ArrayList<>(), null, prices(w, t.load));
    }

    int way(int t, int i) {
        if (!in(t, told.trades)) {
            return -1;
        }
        List<Integer> way = wayOf(now, told.trades.get(t));
        return way == null || !in(i, way) ? -1 : way.get(i);
    }

    int cost(int t) {
        List<Integer> way = in(t, told.trades) ? wayOf(now, told.trades.get(t)) : null;
        if (way == null) {
            throw new NoSuchElementException();
        }
        return sum(way, prices(now, told.trades.get(t).load));
    }

    int shock(int r, int s) {
        return in(r, told.roads) && in(s, told.stuffs) ? shockOf(now, r, s) : -1;
    }

    /** One YEAR from w; a new world comes of it. */
    private World next(World w, List<Trade> trades, int swept) {
        World then = w.copy();
        int[][] lies = new int[10][5];
        int[] passed = new int[10];
        for (int t = 0; t < trades.size(); t++) {
            Trade trade = trades.get(t);
            List<Integer> way = wayOf(w, trade);
            then.last[t] = -1;
            if (way == null) {
                continue;
            }
            int left = trade.load;
            for (int r : way) {
                passed[r] += left;
                int falls = left * shockOf(w, r, trade.stuff) / 100;
                lies[r][trade.stuff] += falls;
                left -= falls;
            }
            then.last[t] = left;
            then.all[t] += left;
        }
        for (int r = 0; r < told.roads.size(); r++) {
            then.holes[r] = Math.min(999999, w.holes[r] + passed[r] / 10);
            for (int s = 0; s < told.stuffs.size(); s++) {
                lies[r][s] += w.lose[r][s];
                then.fell[s] += lies[r][s];
                if (r == swept) {
                    lies[r][s] = 0;
                }
                if (lies[r][s] > 0) {
                    then.holes[r] = Math.max(0, then.holes[r] - lies[r][s] * mendOf(w, r, s, lies[r][s]));
                    then.surface[r][s] += lies[r][s];
                }
            }
        }
        if (w.year < 40) {
            then.layers.put(w.year, lies);
        }
        then.year++;
        return then;
    }

    private World after(World w, List<Trade> trades, int swept, int years) {
        World then = w;
        for (int i = 0; i < years; i++) {
            then = next(then, trades, swept);
        }
        return then;
    }

    private static boolean few(int years) {
        return years >= 1 && years <= 50;
    }

    int years(int many) {
        if (!few(many)) {
            return -1;
        }
        now = after(now, told.trades, -1, many);
        return now.year;
    }

    boolean lose(int r, int s, int parts) {
        if (!in(r, told.roads) || !in(s, told.stuffs) || parts < 0 || parts > 99) {
            return false;
        }
        now.lose[r][s] = parts;
        return true;
    }

    int layer(int year, int r, int s) {
        if (!in(r, told.roads) || !in(s, told.stuffs) || !now.layers.containsKey(year)) {
            return -1;
        }
        return now.layers.get(year)[r][s];
    }

    private int starvesFrom(World w, int r, int first, int years) {
        World then = w;
        for (int i = 0; i <= years; i++) {
            if (i >= first && then.holes[r] >= 1000) {
                return i;
            }
            then = next(then, told.trades, -1);
        }
        return -1;
    }

    int starves(int r, int years) {
        return in(r, told.roads) && few(years) ? starvesFrom(now, r, 0, years) : -1;
    }

    int purpose(int r, int s, int years) {
        if (!in(r, told.roads) || !in(s, told.stuffs) || !few(years)) {
            return -1;
        }
        for (int parts = 0; parts < 100; parts++) {
            World w = now.copy();
            w.lose[r][s] += parts;
            if (starvesFrom(w, r, 1, years) < 0) {
                return parts;
            }
        }
        return -1;
    }

    private int holes(World w) {
        int sum = 0;
        for (int r = 0; r < told.roads.size(); r++) {
            sum += Math.min(1000, w.holes[r]);
        }
        return sum;
    }

    private int tableOf(int s, int years) {
        List<Trade> trades = new ArrayList<>();
        for (Trade t : told.trades) {
            Trade other = t.copy();
            other.stuff = s;
            trades.add(other);
        }
        return holes(after(now, trades, -1, years));
    }

    int table(int s, int years) {
        if (!few(years) || s != -1 && !in(s, told.stuffs)) {
            return -1;
        }
        if (s != -1) {
            return tableOf(s, years);
        }
        int best = -1;
        for (int i = told.stuffs.size() - 1; i >= 0; i--) {
            if (best < 0 || tableOf(i, years) <= tableOf(best, years)) {
                best = i;
            }
        }
        return best;
    }

    int newcomer(int from, int to, int s, int load, int years, int what) {
        if (!in(from, told.places) || !in(to, told.places) || from == to || !in(s, told.stuffs) || load < 1
                || load > 999 || !few(years) || what < 0 || what > 1 || told.trades.size() >= 6) {
            throw new NoSuchElementException();
        }
        Trade t = new Trade();
        t.from = from;
        t.to = to;
        t.stuff = s;
        t.load = load;
        List<Trade> trades = new ArrayList<>(told.trades);
        trades.add(t);
        World with = after(now, trades, -1, years);
        return what == 1 ? with.all[trades.size() - 1] : holes(with) - holes(after(now, told.trades, -1, years));
    }

    int swept(int r, int years) {
        if (!in(r, told.roads) || !few(years)) {
            throw new NoSuchElementException();
        }
        return holes(after(now, told.trades, r, years)) - holes(after(now, told.trades, -1, years));
    }

    boolean told(int s, int parts) {
        if (!in(s, told.stuffs) || parts < 0 || parts > 9999) {
            return false;
        }
        now.layerTold[s] = parts;
        return true;
    }

    int went(int r, int what) {
        if (!in(r, told.roads) || what < 0 || what > 2) {
            return -1;
        }
        List<Integer> sets = new ArrayList<>();
        for (int set = 0; set < 1 << told.trades.size(); set++) {
            int[] falls = new int[5];
            for (int t = 0; t < told.trades.size(); t++) {
                Trade trade = told.trades.get(t);
                if ((set >> t & 1) == 1) {
                    falls[trade.stuff] += trade.load * shockOf(now, r, trade.stuff) / 100;
                }
            }
            if (Arrays.equals(falls, now.layerTold)) {
                sets.add(set);
            }
        }
        if (sets.isEmpty()) {
            return -1;
        }
        return what == 0 ? sets.get(0) : what == 1 ? sets.size() : sets.stream().reduce(-1, (a, b) -> a & b);
    }

    private long g;

    private int draw(int m) {
        g = Math.floorMod(g * 1103515245L + 12345L, 1L << 31);
        return (int) ((g >> 16) % m);
    }

    int wars(int seed, int runs, int years, int what) {
        if (seed < 0 || seed > 9999 || runs < 1 || runs > 20 || !few(years) || what < 0 || what > 1
                || told.roads.isEmpty()) {
            return -1;
        }
        g = seed;
        int hold = 0;
        int comes = 0;
        for (int run = 0; run < runs; run++) {
            World w = now.copy();
            Arrays.fill(w.all, 0);
            for (int y = 0; y < years; y++) {
                int road = draw(told.roads.size());
                w.holes[road] += draw(500);
                w = next(w, told.trades, -1);
            }
            comes += Arrays.stream(w.all).sum();
            boolean holds = true;
            for (int r = 0; r < told.roads.size(); r++) {
                holds &= w.holes[r] < 1000;
            }
            hold += holds ? 1 : 0;
        }
        return what == 0 ? hold : comes;
    }

    boolean mark(int m, boolean back) {
        if (m < 0 || m > 3 || back && marks[m] == null) {
            return false;
        }
        if (back) {
            now = marks[m].copy();
        } else {
            marks[m] = now.copy();
        }
        return true;
    }

    int count(int what) {
        switch (what) {
            case 0: return told.stuffs.size();
            case 1: return told.places.size();
            case 2: return told.roads.size();
            case 3: return told.trades.size();
            case 4: return now.year;
            case 5: {
                int worn = 0;
                for (int r = 0; r < told.roads.size(); r++) {
                    worn += now.holes[r] >= 1000 ? 1 : 0;
                }
                return worn;
            }
            case 6: return holes(now);
            case 7: return tape.length();
            default: return -1;
        }
    }
}
