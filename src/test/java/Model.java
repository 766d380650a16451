import java.math.BigInteger;
import java.util.ArrayDeque;
import java.util.ArrayList;
import java.util.Arrays;
import java.util.Deque;
import java.util.HashMap;
import java.util.List;
import java.util.Map;
import java.util.Set;
import java.util.function.Function;

/** The document once more, written for being read and not for being fast, with all of the Java library. */
final class Model {
    record Step(int place, int minutes) { }

    record Street(int from, int to, int paces) {
        boolean joins(int a, int b) {
            return from == a && to == b || from == b && to == a;
        }
    }

    record Kept(int year, int steps, int time) { }

    record Now(int year, Set<Integer> shut, List<Integer> thingPlaces, List<Step> route, List<Kept> kept) { }

    record Gone(List<Step> route, List<Integer> stands, List<Integer> comes, int time, int pairs) { }

    interface Sum extends Function<Map<String, Integer>, Long> { }

    interface Fact extends Function<Map<String, Integer>, Boolean> { }

    static final class Fault extends RuntimeException {
        final int number;
        final int at;

        Fault(int number, int at) {
            super(null, null, false, false);
            this.number = number;
            this.at = at;
        }
    }

    static final class Town {
        final List<String> places = new ArrayList<>();
        final List<Street> streets = new ArrayList<>();
        final List<Step> steps = new ArrayList<>();
        final List<String> things = new ArrayList<>();
        final List<Integer> thingPlaces = new ArrayList<>();
        final List<Integer> pulls = new ArrayList<>();
        Sum stands = null;
        Fact clever = null;
        int heat = 20;
        int hot = 0;
        int statements = 0;

        int street(int a, int b) {
            for (int i = 0; i < streets.size(); i++) {
                if (streets.get(i).joins(a, b)) {
                    return i;
                }
            }
            return -1;
        }
    }

    private final List<Integer> tape = new ArrayList<>();
    private Town town = new Town();
    private Now now = new Now(0, Set.of(), List.of(), List.of(), List.of());
    private final Deque<Now> acts = new ArrayDeque<>();
    private List<int[]> half = List.of();
    private List<Integer> image = List.of();
    private final int[] refused = new int[6];
    private int fault = 0;
    private int faultAt = -1;
    private long seed = 1;

    private int refuse(int which) {
        refused[which]++;
        return -1;
    }

    int feed(int... numbers) {
        if (tape.size() > 1580) {
            return refuse(0);
        }
        for (int n : numbers) {
            for (int shift = 24; shift >= 0; shift -= 8) {
                tape.add(n >>> shift & 255);
            }
        }
        return tape.size();
    }

    int end(int n) {
        if (n < 0 || n > tape.size()) {
            return refuse(0) + 1;
        }
        tape.subList(n, tape.size()).clear();
        return 1;
    }

    private List<Integer> takeTape() {
        List<Integer> all = List.copyOf(tape);
        tape.clear();
        return all;
    }

    int town() {
        StringBuilder text = new StringBuilder();
        for (int b : takeTape()) {
            text.append((char) b);
        }
        fault = 0;
        faultAt = -1;
        try {
            town = new ModelReader(text.toString()).town();
        } catch (Fault f) {
            fault = f.number;
            faultAt = f.at;
            return refuse(1);
        }
        now = new Now(0, Set.of(), List.copyOf(town.thingPlaces), List.copyOf(town.steps), List.of());
        acts.clear();
        half = List.of();
        return town.statements;
    }

    int fault(int what) {
        return what == 0 ? fault : what == 1 ? faultAt : -1;
    }

    int has(int what) {
        int[] all = {town.places.size(), town.streets.size(), town.things.size(), now.year, now.route.size(), now.shut.size(),
            told().size(), half.size(), acts.size(), (int) seed};
        return what >= 0 && what < all.length ? all[what] : -1;
    }

    private List<Kept> told() {
        return now.kept.subList(Math.max(0, now.kept.size() - 40), now.kept.size());
    }

    int letter(int kind, int which, int k) {
        List<String> names = kind == 0 ? town.places : kind == 1 ? town.things : List.of();
        if (which < 0 || which >= names.size() || k < 0 || k > 5) {
            return -1;
        }
        return k < names.get(which).length() ? names.get(which).charAt(k) - 96 : 0;
    }

    int street(int street, int what) {
        if (street < 0 || street >= town.streets.size() || what < 0 || what > 3) {
            return -1;
        }
        Street s = town.streets.get(street);
        return new int[] {s.from, s.to, s.paces, now.shut.contains(street) ? 1 : 0}[what];
    }

    private boolean isPlace(int place) {
        return place >= 0 && place < town.places.size();
    }

    /** All ways without a PLACE twice, tried one after the other: the shortest, of like ones the least PLACES. */
    private List<Integer> wayOf(Set<Integer> shut, int from, int to) {
        List<List<Integer>> best = new ArrayList<>();
        tryWays(shut, new ArrayList<>(List.of(from)), to, best);
        return best.isEmpty() ? null : best.get(0);
    }

    private void tryWays(Set<Integer> shut, List<Integer> sofar, int to, List<List<Integer>> best) {
        int at = sofar.get(sofar.size() - 1);
        if (at == to) {
            // they come in the order of their PLACES, so a like one comes later
            if (best.isEmpty() || length(sofar) < length(best.get(0))) {
                best.clear();
                best.add(List.copyOf(sofar));
            }
            return;
        }
        for (int next = 0; next < town.places.size(); next++) {
            int street = town.street(at, next);
            if (street >= 0 && !shut.contains(street) && !sofar.contains(next)) {
                sofar.add(next);
                tryWays(shut, sofar, to, best);
                sofar.remove(sofar.size() - 1);
            }
        }
    }

    private int length(List<Integer> places) {
        int all = 0;
        for (int i = 1; i < places.size(); i++) {
            all += town.streets.get(town.street(places.get(i - 1), places.get(i))).paces;
        }
        return all;
    }

    int way(int from, int to) {
        if (!isPlace(from) || !isPlace(to)) {
            return -1;
        }
        List<Integer> way = wayOf(now.shut, from, to);
        return way == null ? -1 : length(way);
    }

    int thing(int thing, int what) {
        if (thing < 0 || thing >= town.things.size() || what < 0 || what > 1) {
            return -1;
        }
        return what == 0 ? now.thingPlaces.get(thing) : town.pulls.get(thing);
    }

    int step(int k, int what) {
        if (k < 0 || k >= now.route.size() || what < 0 || what > 1) {
            return -1;
        }
        return what == 0 ? now.route.get(k).place : now.route.get(k).minutes;
    }

    private List<Step> round(List<Step> route, Set<Integer> shut) {
        List<Step> all = new ArrayList<>(route);
        int k = 0;
        while (k + 1 < all.size()) {
            int a = all.get(k).place;
            int b = all.get(k + 1).place;
            if (shut.contains(town.street(a, b))) {
                List<Integer> way = wayOf(shut, a, b);
                if (way == null || all.size() + way.size() - 2 > 30) {
                    return new ArrayList<>(all.subList(0, k + 1));
                }
                for (int i = 1; i < way.size() - 1; i++) {
                    k++;
                    all.add(k, new Step(way.get(i), 0));
                }
            }
            k++;
        }
        return all;
    }

    private Gone go(Now from, int year, int heat, Set<Integer> shut, Set<Integer> away) {
        List<Step> route = round(from.route, shut);
        List<Integer> stands = new ArrayList<>();
        List<Integer> comes = new ArrayList<>();
        int time = 0;
        int pairs = 0;
        for (int k = 0; k < route.size(); k++) {
            Step s = route.get(k);
            if (k > 0) {
                time += town.streets.get(town.street(route.get(k - 1).place, s.place)).paces;
            }
            int been = (int) route.subList(0, k).stream().filter(o -> o.place == s.place).count();
            int pull = 0;
            for (int t = 0; t < town.things.size(); t++) {
                pull += from.thingPlaces.get(t) == s.place && !away.contains(t) ? town.pulls.get(t) : 0;
            }
            Map<String, Integer> facts = new HashMap<>(Map.of("heat", heat, "year", year, "told", s.minutes, "pull", pull, "step", k, "been", been));
            long stand = town.stands == null ? s.minutes : Math.max(0, Math.min(60, town.stands.apply(facts)));
            comes.add(time);
            stands.add((int) stand);
            time += stand;
            pairs += been;
        }
        return new Gone(route, stands, comes, time, pairs);
    }

    private Gone thisYear() {
        return go(now, now.year, town.heat, now.shut, Set.of());
    }

    private List<Step> behind(Gone gone, int year, int heat) {
        List<Step> route = gone.route;
        Map<String, Integer> facts = Map.of("heat", heat, "year", year, "steps", route.size(), "time", gone.time, "loops", gone.pairs);
        if (town.clever == null || !town.clever.apply(facts)) {
            return route;
        }
        for (int i = 0; i < route.size(); i++) {
            for (int j = i + 1; j < route.size(); j++) {
                if (route.get(i).place == route.get(j).place) {
                    List<Step> left = new ArrayList<>(route.subList(0, i));
                    left.addAll(route.subList(j, route.size()));
                    return left;
                }
            }
        }
        return route;
    }

    private Now withRoute(Now from, int year, List<Step> route) {
        return new Now(year, from.shut, from.thingPlaces, List.copyOf(route), from.kept);
    }

    int year(int what) {
        Gone g = thisYear();
        int stood = g.stands.stream().mapToInt(i -> i).sum();
        return what < 0 || what > 3 ? -1 : new int[] {g.route.size(), g.time, stood, g.pairs}[what];
    }

    int goes(int k, int what) {
        Gone g = thisYear();
        if (k < 0 || k >= g.route.size() || what < 0 || what > 2) {
            return -1;
        }
        return new int[] {g.route.get(k).place, g.stands.get(k), g.comes.get(k)}[what];
    }

    int wall() {
        List<Integer> stands = thisYear().stands;
        return stands.isEmpty() ? -1 : stands.indexOf(stands.stream().mapToInt(i -> i).max().getAsInt());
    }

    private static Set<Integer> set(int bits) {
        Set<Integer> all = new java.util.TreeSet<>();
        for (int i = 0; i < 32; i++) {
            if ((bits >>> i & 1) == 1) {
                all.add(i);
            }
        }
        return all;
    }

    int away(int n) {
        if (n < 0 || n > 60) {
            return -1;
        }
        int best = -1;
        for (int bits = 0; bits < 1 << town.things.size(); bits++) {
            boolean fewer = best < 0 || Integer.bitCount(bits) < Integer.bitCount(best);
            if (fewer && go(now, now.year, town.heat, now.shut, set(bits)).stands.stream().allMatch(m -> m <= n)) {
                best = bits;
            }
        }
        return best;
    }

    int by(int place) {
        if (!isPlace(place)) {
            return -1;
        }
        int best = -1;
        for (int bits = 0; bits < 1 << town.streets.size(); bits++) {
            int many = Integer.bitCount(bits);
            if (many > 2 || best >= 0 && many >= Integer.bitCount(best)) {
                continue;
            }
            Set<Integer> shut = set(bits);
            shut.addAll(now.shut);
            if (round(now.route, shut).stream().anyMatch(s -> s.place == place)) {
                best = bits;
            }
        }
        return best;
    }

    int seats(int many) {
        if (many < 1 || many > 3 || many > town.places.size()) {
            return -1;
        }
        Gone g = thisYear();
        int best = -1;
        int most = -1;
        for (int bits = 0; bits < 1 << town.places.size(); bits++) {
            int seen = 0;
            for (int k = 0; k < g.route.size(); k++) {
                seen += set(bits).contains(g.route.get(k).place) ? g.stands.get(k) : 0;
            }
            if (Integer.bitCount(bits) == many && seen > most) {
                best = bits;
                most = seen;
            }
        }
        return best;
    }

    /** The YEARS AHEAD as they go, 40 of them, and the ROUTES ahead of each and behind the last. */
    private List<Gone> ahead(List<List<Step>> routes) {
        List<Gone> all = new ArrayList<>();
        Now at = now;
        for (int n = 0; n < 40; n++) {
            routes.add(at.route);
            int year = Math.min(999, now.year + n);
            Gone g = go(at, year, town.heat, at.shut, Set.of());
            all.add(g);
            at = withRoute(at, year, behind(g, year, town.heat));
        }
        routes.add(at.route);
        return all;
    }

    int later(int n, int what) {
        if (n < 0 || n > 39 || what < 0 || what > 1) {
            return -1;
        }
        Gone g = ahead(new ArrayList<>()).get(n);
        return what == 0 ? g.route.size() : g.time;
    }

    int missed(int place) {
        if (!isPlace(place)) {
            return -1;
        }
        List<Gone> all = ahead(new ArrayList<>());
        for (int n = 0; n < 40; n++) {
            if (all.get(n).route.stream().noneMatch(s -> s.place == place)) {
                return n;
            }
        }
        return -1;
    }

    int held() {
        List<List<Step>> routes = new ArrayList<>();
        ahead(routes);
        for (int n = 0; n < 40; n++) {
            if (routes.get(n).equals(routes.get(n + 1))) {
                return n;
            }
        }
        return -1;
    }

    int half() {
        List<Integer> bytes = takeTape();
        List<int[]> rows = new ArrayList<>();
        boolean good = !bytes.isEmpty() && bytes.size() % 2 == 0 && bytes.size() <= 40;
        for (int i = 0; i + 1 < bytes.size(); i += 2) {
            good &= bytes.get(i) < 20 && isPlace(bytes.get(i + 1));
            rows.add(new int[] {bytes.get(i), bytes.get(i + 1)});
        }
        if (!good) {
            return refuse(5);
        }
        half = rows;
        return rows.size();
    }

    /** How many routes of n STEPS meet the rows, a STEP more in a PLACE being asked for (none if below 0). */
    private BigInteger count(int n, int step, int place) {
        List<int[]> rows = new ArrayList<>(half);
        if (step >= 0) {
            rows.add(new int[] {step, place});
        }
        if (rows.stream().anyMatch(r -> r[0] >= n)) {
            return BigInteger.ZERO;
        }
        int places = town.places.size();
        BigInteger[] at = new BigInteger[places];
        for (int k = 0; k < n; k++) {
            BigInteger[] next = new BigInteger[places];
            for (int p = 0; p < places; p++) {
                BigInteger many = k == 0 ? BigInteger.ONE : BigInteger.ZERO;
                for (int q = 0; q < places && k > 0; q++) {
                    many = town.street(q, p) >= 0 ? many.add(at[q]) : many;
                }
                int here = p;
                int number = k;
                boolean barred = rows.stream().anyMatch(r -> r[0] == number && r[1] != here);
                next[p] = barred ? BigInteger.ZERO : many;
            }
            at = next;
        }
        return Arrays.stream(at).reduce(BigInteger.ZERO, BigInteger::add);
    }

    private static int capped(BigInteger many) {
        return many.min(BigInteger.valueOf(999999999)).intValueExact();
    }

    int filled(int n) {
        return n < 1 || n > 20 ? -1 : capped(count(n, -1, 0));
    }

    int filling(int n, int k) {
        if (n < 1 || n > 20 || k < 0 || k >= n || count(n, -1, 0).signum() == 0) {
            return -1;
        }
        List<int[]> was = half;
        half = new ArrayList<>(half);
        int last = -1;
        for (int step = 0; step <= k; step++) {
            last = 0;
            while (count(n, step, last).signum() == 0) {
                last++;
            }
            half.add(new int[] {step, last});
        }
        half = was;
        return last;
    }

    int asked(int n, int what) {
        if (n < 1 || n > 20 || what < 0 || what > 1 || count(n, -1, 0).signum() == 0) {
            return -1;
        }
        int best = -1;
        BigInteger fewest = null;
        for (int step = 0; step < n; step++) {
            BigInteger most = BigInteger.ZERO;
            for (int place = 0; place < town.places.size(); place++) {
                most = most.max(count(n, step, place));
            }
            if (fewest == null || most.compareTo(fewest) < 0) {
                fewest = most;
                best = step;
            }
        }
        return what == 0 ? best : capped(fewest);
    }

    private void act(Now next) {
        acts.addLast(now);
        if (acts.size() > 20) {
            acts.removeFirst();
        }
        now = next;
    }

    private int draw(int m) {
        seed = (1103515245L * seed + 12345L) % (1L << 31);
        return (int) (seed / 64 % m);
    }

    /** The TIMES together, and how many were hot. */
    private int[] pass(int n, boolean bySeed) {
        int times = 0;
        int hots = 0;
        Now at = now;
        for (int i = 0; i < n; i++) {
            int heat = town.heat;
            if (bySeed && draw(100) < town.hot) {
                heat = draw(41);
                hots++;
            }
            Gone g = go(at, at.year, heat, at.shut, Set.of());
            List<Kept> kept = new ArrayList<>(at.kept);
            kept.add(new Kept(at.year, g.route.size(), g.time));
            times += g.time;
            at = new Now(at.year + 1, at.shut, at.thingPlaces, List.copyOf(behind(g, at.year, heat)), kept);
        }
        act(at);
        return new int[] {times, hots};
    }

    int years(int n) {
        return n < 1 || n > 40 || now.year + n > 999 ? refuse(2) : pass(n, false)[0];
    }

    int chance(int n) {
        return n < 1 || n > 40 || now.year + n > 999 ? refuse(2) : pass(n, true)[1];
    }

    int shut(int street, int on) {
        boolean is = now.shut.contains(street);
        if (street < 0 || street >= town.streets.size() || on != 0 && on != 1 || is == (on == 1)) {
            return refuse(3) + 1;
        }
        Set<Integer> shut = new java.util.TreeSet<>(now.shut);
        if (is) {
            shut.remove(street);
        } else {
            shut.add(street);
        }
        act(new Now(now.year, shut, now.thingPlaces, now.route, now.kept));
        return 1;
    }

    int move(int thing, int place) {
        if (thing < 0 || thing >= town.things.size() || !isPlace(place) || now.thingPlaces.get(thing) == place) {
            return refuse(3) + 1;
        }
        List<Integer> places = new ArrayList<>(now.thingPlaces);
        places.set(thing, place);
        act(new Now(now.year, now.shut, places, now.route, now.kept));
        return 1;
    }

    int teach(int place, int minutes) {
        int many = now.route.size();
        if (!isPlace(place) || minutes < 0 || minutes > 30 || many == 30
            || many > 0 && town.street(now.route.get(many - 1).place, place) < 0) {
            return refuse(3) + 1;
        }
        List<Step> route = new ArrayList<>(now.route);
        route.add(new Step(place, minutes));
        act(withRoute(now, now.year, route));
        return 1;
    }

    int forget() {
        if (now.route.isEmpty()) {
            return refuse(3) + 1;
        }
        act(withRoute(now, now.year, now.route.subList(0, now.route.size() - 1)));
        return 1;
    }

    int undo() {
        if (acts.isEmpty()) {
            return refuse(4) + 1;
        }
        now = acts.removeLast();
        return 1;
    }

    int seed(int to) {
        if (to < 0) {
            return refuse(5) + 1;
        }
        seed = to;
        return 1;
    }

    int kept(int k, int what) {
        if (k < 0 || k >= told().size() || what < 0 || what > 2) {
            return -1;
        }
        Kept one = told().get(k);
        return new int[] {one.year, one.steps, one.time}[what];
    }

    private List<Integer> bytesOf(Now one) {
        List<Integer> all = new ArrayList<>(List.of(one.year / 256, one.year % 256));
        for (int i = 0; i < town.streets.size(); i++) {
            all.add(one.shut.contains(i) ? 1 : 0);
        }
        all.addAll(one.thingPlaces);
        all.add(one.route.size());
        for (Step s : one.route) {
            all.add(s.place);
            all.add(s.minutes);
        }
        int c = 197;
        for (int b : all) {
            c = (5 * c + b) % 251;
        }
        all.add(c);
        return all;
    }

    int image() {
        image = bytesOf(now);
        return image.size();
    }

    int octet(int k) {
        return k >= 0 && k < image.size() ? image.get(k) : -1;
    }

    /** Reads what can be read of an image, writes it again, and looks whether it is the same. */
    private Now ofImage(List<Integer> bytes) {
        int streets = town.streets.size();
        int things = town.things.size();
        if (bytes.size() < 4 + streets + things) {
            return null;
        }
        Set<Integer> shut = new java.util.TreeSet<>();
        for (int i = 0; i < streets; i++) {
            if (bytes.get(2 + i) == 1) {
                shut.add(i);
            }
        }
        List<Step> route = new ArrayList<>();
        for (int i = 3 + streets + things; i + 2 < bytes.size(); i += 2) {
            route.add(new Step(bytes.get(i), bytes.get(i + 1)));
        }
        Now one = new Now(bytes.get(0) * 256 + bytes.get(1), shut, bytes.subList(2 + streets, 2 + streets + things), route, List.of());
        boolean good = one.year <= 999 && route.size() <= 30 && one.thingPlaces.stream().allMatch(this::isPlace)
            && route.stream().allMatch(s -> isPlace(s.place) && s.minutes <= 30);
        for (int k = 1; k < route.size() && good; k++) {
            good = town.street(route.get(k - 1).place, route.get(k).place) >= 0;
        }
        return good && bytesOf(one).equals(bytes) ? one : null;
    }

    int on() {
        Now one = ofImage(takeTape());
        if (one == null) {
            return refuse(5) + 1;
        }
        now = one;
        acts.clear();
        return 1;
    }

    int status(int what) {
        return what >= 0 && what < 6 ? refused[what] : -1;
    }
}
