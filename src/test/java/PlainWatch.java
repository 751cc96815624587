import java.math.BigInteger;
import java.util.ArrayDeque;
import java.util.ArrayList;
import java.util.Arrays;
import java.util.HashMap;
import java.util.HashSet;
import java.util.List;
import java.util.Map;
import java.util.Set;
import java.util.TreeMap;
import java.util.function.Function;

/**
 * The document once more, in the plainest way and with other means than the program's (token lists,
 * closures, maps, enumeration), for runs in which both must answer alike. Arguments are checked here too.
 */
final class PlainWatch {
    static final int NONE = -1;

    static final class Missing extends RuntimeException {
        private static final long serialVersionUID = 1L;
    }

    static final class Illegal extends RuntimeException {
        private static final long serialVersionUID = 1L;
    }

    private static final class Fault extends RuntimeException {
        private static final long serialVersionUID = 1L;
        final int kind;
        final int at;

        Fault(int kind, int at) {
            this.kind = kind;
            this.at = at;
        }
    }

    private static final class Token {
        final String text;
        final int at;

        Token(String text, int at) {
            this.text = text;
            this.at = at;
        }

        boolean isNumber() {
            return !text.isEmpty() && Character.isDigit(text.charAt(0));
        }
    }

    /** Tokens of a text, the end being an empty one at the length. */
    private static final class Tokens {
        final List<Token> all = new ArrayList<>();
        int next = 0;

        Tokens(String text) {
            int at = 0;
            while (at < text.length()) {
                char c = text.charAt(at);
                int to = at + 1;
                if (c >= 'a' && c <= 'z') {
                    while (to < text.length() && text.charAt(to) >= 'a' && text.charAt(to) <= 'z') {
                        to++;
                    }
                } else if (c >= '0' && c <= '9') {
                    while (to < text.length() && text.charAt(to) >= '0' && text.charAt(to) <= '9') {
                        to++;
                    }
                }
                if (c != ' ') {
                    all.add(new Token(text.substring(at, to), at));
                }
                at = to;
            }
            all.add(new Token("", text.length()));
        }

        Token peek() {
            return all.get(next);
        }

        boolean sees(String text) {
            return peek().text.equals(text);
        }

        boolean ends() {
            return next == all.size() - 1;
        }

        Token take() {
            Token token = peek();
            if (!ends()) {
                next++;
            }
            return token;
        }

        void expect(String sign) {
            if (!sees(sign)) {
                throw new Fault(1, peek().at);
            }
            take();
        }

        int number(int least, int most) {
            Token token = peek();
            if (!token.isNumber()) {
                throw new Fault(1, token.at);
            }
            BigInteger value = new BigInteger(token.text);
            if (value.compareTo(BigInteger.valueOf(least)) < 0 || value.compareTo(BigInteger.valueOf(most)) > 0) {
                throw new Fault(2, token.at);
            }
            take();
            return value.intValue();
        }
    }

    private static final class Man implements Cloneable {
        int corner;
        int bell = NONE;
        int heard = 0;
        int stayed = 0;

        Man copy() {
            Man m = new Man();
            m.corner = corner;
            m.bell = bell;
            m.heard = heard;
            m.stayed = stayed;
            return m;
        }
    }

    private final class World {
        int breath;
        int night = 0;
        int blown = 0;
        List<Integer> sinceNight = new ArrayList<>();
        Set<Integer> fog = new HashSet<>();
        List<Man> people = new ArrayList<>();

        World copy() {
            World w = new World();
            w.breath = breath;
            w.night = night;
            w.blown = blown;
            w.sinceNight = new ArrayList<>(sinceNight);
            w.fog = new HashSet<>(fog);
            for (Man m : people) {
                w.people.add(m.copy());
            }
            return w;
        }

        int most() {
            int most = 0;
            for (int c = 0; c < bells.size(); c++) {
                int here = 0;
                for (Man m : people) {
                    here += m.corner == c ? 1 : 0;
                }
                most = Math.max(most, here);
            }
            return most;
        }

        int same(int whistle) {
            int many = 0;
            for (int i = sinceNight.size() - 1; i >= 0 && sinceNight.get(i) == whistle; i--) {
                many++;
            }
            return many;
        }

        int cost(int whistle) {
            return costBy(new int[] {whistle, blown, same(whistle), fog.size(), most(), night, breath});
        }

        boolean blow(int whistle) {
            int cost = cost(whistle);
            if (cost > breath) {
                return false;
            }
            breath -= cost;
            for (Man m : people) {
                if (fog.contains(m.corner)) {
                    m.stayed++;
                } else {
                    m.corner = ways[whistle][m.corner];
                    m.bell = bells.get(m.corner);
                    m.heard++;
                }
            }
            blown++;
            sinceNight.add(whistle);
            return true;
        }

        void turnFog(int corner) {
            if (!fog.remove(corner)) {
                fog.add(corner);
            }
        }

        void endNight() {
            sinceNight.clear();
            Set<Integer> then = new HashSet<>();
            for (int c : fog) {
                then.add(c == bells.size() - 1 ? 0 : c + 1);
            }
            fog = then;
            night++;
        }

        int where() {
            int set = 0;
            for (Man m : people) {
                set |= 1 << m.corner;
            }
            return set;
        }
    }

    private static final class Picture {
        World world;
        List<World> undo;
    }

    private interface Step {
        void go();
    }

    private static final class Enough extends RuntimeException {
        private static final long serialVersionUID = 1L;
    }

    String tape = "";
    int faultAt = NONE;
    int missing = 0;
    int illegal = 0;

    private List<Integer> bells = new ArrayList<>();
    private int[][] ways = new int[4][10];
    private Function<int[], Integer> law = f -> 1 + f[2];
    private List<Integer> song = new ArrayList<>();
    private List<Integer> book = new ArrayList<>();
    private World world = new World();
    private List<World> undo = new ArrayList<>();
    private final ArrayDeque<Picture> pictures = new ArrayDeque<>();
    private int refused = 0;
    private int begun = 0;
    private int done = 0;

    PlainWatch() {
        world.breath = 60;
    }

    private void must(boolean good) {
        if (!good) {
            illegal++;
            throw new Illegal();
        }
    }

    private void mustBe(int... corners) {
        for (int c : corners) {
            if (c < 0 || c >= bells.size()) {
                missing++;
                throw new Missing();
            }
        }
    }

    private void bits(int corners) {
        must(corners >= 0 && corners < 1 << bells.size());
    }

    private int costBy(int[] facts) {
        int value = law.apply(facts);
        return value < 0 ? 0 : value > 60 ? 60 : value;
    }

    // ---- texts

    int feed(int... numbers) {
        if (tape.length() > 580) {
            return NONE;
        }
        StringBuilder more = new StringBuilder(tape);
        for (int number : numbers) {
            more.append((char) (number >>> 24)).append((char) (number >>> 16 & 255));
            more.append((char) (number >>> 8 & 255)).append((char) (number & 255));
        }
        tape = more.toString();
        return tape.length();
    }

    private Tokens take(int n, int most) {
        must(n >= 0 && n <= most && n <= tape.length());
        Tokens tokens = new Tokens(tape.substring(0, n));
        tape = "";
        faultAt = NONE;
        return tokens;
    }

    private int answer(Fault f) {
        faultAt = f.at;
        return f.kind - 10;
    }

    int town(int n) {
        Tokens t = take(n, 600);
        List<Integer> newBells = new ArrayList<>();
        int[][] newWays = new int[4][10];
        List<Man> newMen = new ArrayList<>();
        int breath = 60;
        try {
            for (int clause = 0; !t.ends(); clause++) {
                Token word = t.take();
                if (!Arrays.asList("corner", "way", "man", "breath").contains(word.text)) {
                    throw new Fault(1, word.at);
                }
                if (clause == 60 || word.text.equals("corner") && newBells.size() == 10
                        || word.text.equals("man") && newMen.size() == 5) {
                    throw new Fault(3, word.at);
                }
                int last = newBells.size() - 1;
                if (word.text.equals("corner")) {
                    newBells.add(t.number(0, 9));
                    for (int[] row : newWays) {
                        row[last + 1] = last + 1;
                    }
                } else if (word.text.equals("way")) {
                    int w = t.number(0, 3);
                    int a = t.number(0, last);
                    newWays[w][a] = t.number(0, last);
                } else if (word.text.equals("man")) {
                    Man m = new Man();
                    m.corner = t.number(0, last);
                    newMen.add(m);
                } else {
                    breath = t.number(0, 200);
                }
                t.expect(";");
            }
        } catch (Fault f) {
            return answer(f);
        }
        bells = newBells;
        ways = newWays;
        law = f -> 1 + f[2];
        song = new ArrayList<>();
        book = new ArrayList<>();
        world = new World();
        world.breath = breath;
        world.people = newMen;
        undo = new ArrayList<>();
        pictures.clear();
        refused = 0;
        return bells.size();
    }

    int law(int n) {
        Tokens t = take(n, 150);
        try {
            Function<int[], Integer> read = sum(t, 0);
            if (!t.ends()) {
                throw new Fault(1, t.peek().at);
            }
            law = read;
            return 1;
        } catch (Fault f) {
            return answer(f);
        }
    }

    private Function<int[], Integer> sum(Tokens t, int open) {
        Function<int[], Integer> left = product(t, open);
        while (t.sees("+") || t.sees("-")) {
            boolean plus = t.take().text.equals("+");
            Function<int[], Integer> a = left;
            Function<int[], Integer> b = product(t, open);
            left = f -> plus ? a.apply(f) + b.apply(f) : a.apply(f) - b.apply(f);
        }
        return left;
    }

    private Function<int[], Integer> product(Tokens t, int open) {
        Function<int[], Integer> left = unit(t, open);
        while (t.sees("*") || t.sees("/") || t.sees("%")) {
            String sign = t.take().text;
            Function<int[], Integer> a = left;
            Function<int[], Integer> b = unit(t, open);
            left = f -> {
                int x = a.apply(f);
                int y = b.apply(f);
                if (sign.equals("*")) {
                    return x * y;
                }
                if (y == 0) {
                    return 0;
                }
                return sign.equals("/") ? (int) ((long) x / y) : (int) ((long) x % y);
            };
        }
        return left;
    }

    private Function<int[], Integer> unit(Tokens t, int open) {
        Token first = t.peek();
        if (first.isNumber()) {
            int value = t.number(0, 999);
            return f -> value;
        }
        int fact = Arrays.asList("whistle", "blown", "same", "fog", "men", "night", "breath").indexOf(first.text);
        if (fact >= 0) {
            t.take();
            return f -> f[fact];
        }
        if (!Arrays.asList("(", "least", "most").contains(first.text)) {
            throw new Fault(1, first.at);
        }
        if (open == 6) {
            throw new Fault(3, first.at);
        }
        t.take();
        if (first.text.equals("(")) {
            Function<int[], Integer> inner = sum(t, open + 1);
            t.expect(")");
            return inner;
        }
        t.expect("[");
        Function<int[], Integer> a = sum(t, open + 1);
        t.expect(",");
        Function<int[], Integer> b = sum(t, open + 1);
        t.expect("]");
        boolean least = first.text.equals("least");
        return f -> least ? Math.min(a.apply(f), b.apply(f)) : Math.max(a.apply(f), b.apply(f));
    }

    int work(int n) {
        Tokens t = take(n, 150);
        if (undo.size() == 16) {
            return -20;
        }
        List<Step> steps;
        try {
            steps = steps(t, 0);
        } catch (Fault f) {
            return answer(f);
        }
        undo.add(world.copy());
        refused = 0;
        begun = 0;
        done = 0;
        try {
            for (Step s : steps) {
                s.go();
            }
        } catch (Enough e) {
            return done;
        }
        return done;
    }

    private List<Step> steps(Tokens t, int open) {
        List<Step> steps = new ArrayList<>();
        while (open == 0 ? !t.ends() : !t.sees("]")) {
            steps.add(step(t, open));
            t.expect(";");
        }
        return steps;
    }

    private void begin() {
        if (begun == 200) {
            throw new Enough();
        }
        begun++;
    }

    private void end(boolean good) {
        if (good) {
            done++;
        } else {
            refused++;
        }
    }

    private Step step(Tokens t, int open) {
        Token word = t.take();
        int last = bells.size() - 1;
        switch (word.text) {
            case "blow": {
                int w = t.number(0, 3);
                return () -> {
                    begin();
                    end(world.blow(w));
                };
            }
            case "fog": {
                int c = t.number(0, last);
                return () -> {
                    begin();
                    world.turnFog(c);
                    end(true);
                };
            }
            case "rest": {
                int more = t.number(1, 60);
                return () -> {
                    begin();
                    end(world.breath != 200);
                    world.breath = Math.min(200, world.breath + more);
                };
            }
            case "walk": {
                int m = t.number(0, world.people.size() - 1);
                int c = t.number(0, last);
                return () -> {
                    begin();
                    end(world.people.get(m).corner != c);
                    world.people.get(m).corner = c;
                };
            }
            case "night":
                return () -> {
                    begin();
                    end(world.night < 400);
                    if (world.night < 400) {
                        world.endNight();
                    }
                };
            case "again": {
                if (open == 6) {
                    throw new Fault(3, word.at);
                }
                int times = t.number(0, 40);
                t.expect("[");
                List<Step> inner = steps(t, open + 1);
                t.expect("]");
                return () -> {
                    begin();
                    for (int i = 0; i < times; i++) {
                        for (Step s : inner) {
                            s.go();
                        }
                    }
                };
            }
            default:
                throw new Fault(1, word.at);
        }
    }

    private List<Integer> tune(Tokens t, int most) {
        List<Integer> tune = new ArrayList<>();
        while (!t.ends()) {
            int at = t.peek().at;
            tune.add(t.number(0, most));
            if (tune.size() == 21) {
                throw new Fault(3, at);
            }
            t.expect(";");
        }
        return tune;
    }

    int song(int n) {
        Tokens t = take(n, 60);
        try {
            song = tune(t, 3);
            return song.size();
        } catch (Fault f) {
            return answer(f);
        }
    }

    int book(int n) {
        Tokens t = take(n, 60);
        try {
            book = tune(t, 9);
            return book.size();
        } catch (Fault f) {
            return answer(f);
        }
    }

    int undo() {
        if (undo.isEmpty()) {
            return -1;
        }
        world = undo.remove(undo.size() - 1);
        refused = 0;
        return undo.size();
    }

    // ---- told

    private int fogBits(Set<Integer> fog) {
        int set = 0;
        for (int c : fog) {
            set |= 1 << c;
        }
        return set;
    }

    int told(int what) {
        must(what >= 0 && what <= 11);
        int since = world.sinceNight.size();
        int[] all = {bells.size(), world.people.size(), world.breath, world.night, fogBits(world.fog), world.blown,
            since == 0 ? NONE : world.sinceNight.get(since - 1), world.where(), song.size(), book.size(), refused,
            world.most()};
        return all[what];
    }

    int corner(int c, int what) {
        mustBe(c);
        must(what >= 0 && what <= 2);
        if (what == 0) {
            return bells.get(c);
        }
        if (what == 1) {
            return world.fog.contains(c) ? 1 : 0;
        }
        int who = 0;
        for (int m = 0; m < world.people.size(); m++) {
            who += world.people.get(m).corner == c ? 1 << m : 0;
        }
        return who;
    }

    int way(int c, int w) {
        mustBe(c);
        must(w >= 0 && w <= 3);
        return ways[w][c];
    }

    int man(int m, int what) {
        if (m < 0 || m >= world.people.size()) {
            missing++;
            throw new Missing();
        }
        must(what >= 0 && what <= 3);
        Man man = world.people.get(m);
        return new int[] {man.corner, man.bell, man.heard, man.stayed}[what];
    }

    int cost(int w) {
        must(w >= 0 && w <= 3);
        return world.cost(w);
    }

    int would(int... facts) {
        int[] most = {3, 999, 999, 10, 5, 400, 200};
        for (int i = 0; i < 7; i++) {
            must(facts[i] >= 0 && facts[i] <= most[i]);
        }
        return costBy(facts);
    }

    int ahead(int n, int what) {
        must(n >= 0 && n <= 99 && what >= 0 && what <= 1);
        World w = world.copy();
        for (int i = 0; i < n; i++) {
            w.endNight();
        }
        if (what == 0) {
            return fogBits(w.fog);
        }
        int who = 0;
        for (int m = 0; m < w.people.size(); m++) {
            who += w.fog.contains(w.people.get(m).corner) ? 1 << m : 0;
        }
        return who;
    }

    // ---- asked

    private int go(int c, int w) {
        return world.fog.contains(c) ? c : ways[w][c];
    }

    private int goAll(int set, int w) {
        int then = 0;
        for (int c = 0; c < bells.size(); c++) {
            if ((set >> c & 1) == 1) {
                then |= 1 << go(c, w);
            }
        }
        return then;
    }

    int goes(int corners) {
        bits(corners);
        int set = corners;
        for (int w : song) {
            set = goAll(set, w);
        }
        return set;
    }

    /** Of the fewest rows to each set the first, level by level, until one is the aim (0: any single one). */
    private String[] gather(int corners, int aim) {
        Map<Integer, String> level = new HashMap<>();
        Set<Integer> seen = new HashSet<>();
        level.put(corners, "");
        while (!level.isEmpty()) {
            String best = null;
            int at = 0;
            for (Map.Entry<Integer, String> e : level.entrySet()) {
                boolean hit = aim == 0 ? Integer.bitCount(e.getKey()) == 1 : e.getKey() == aim;
                if (hit && (best == null || e.getValue().compareTo(best) < 0)) {
                    best = e.getValue();
                    at = e.getKey();
                }
            }
            if (best != null) {
                return new String[] {best, Integer.toString(Integer.numberOfTrailingZeros(at))};
            }
            seen.addAll(level.keySet());
            Map<Integer, String> next = new HashMap<>();
            for (Map.Entry<Integer, String> e : level.entrySet()) {
                for (int w = 0; w < 4; w++) {
                    int then = goAll(e.getKey(), w);
                    if (!seen.contains(then)) {
                        next.merge(then, e.getValue() + w, (a, b) -> a.compareTo(b) < 0 ? a : b);
                    }
                }
            }
            level = next;
        }
        return null;
    }

    int reset(int corners, int what) {
        bits(corners);
        must(what >= 0 && what <= 1);
        if (corners == 0) {
            return what == 0 ? 0 : NONE;
        }
        String[] row = gather(corners, 0);
        return row == null ? NONE : what == 0 ? row[0].length() : Integer.parseInt(row[1]);
    }

    int row(int corners, int k) {
        bits(corners);
        must(k >= 0);
        String[] row = corners == 0 ? null : gather(corners, 0);
        return row == null || k >= row[0].length() ? NONE : row[0].charAt(k) - '0';
    }

    int home(int corners, int c) {
        mustBe(c);
        bits(corners);
        if (corners == 0) {
            return 0;
        }
        String[] row = gather(corners, 1 << c);
        return row == null ? NONE : row[0].length();
    }

    int cheap(int corners) {
        bits(corners);
        if (corners == 0) {
            return 0;
        }
        Map<Integer, Integer> spent = new TreeMap<>();
        spent.put(corners, 0);
        boolean changed = true;
        while (changed) {
            changed = false;
            for (int set : new ArrayList<>(spent.keySet())) {
                for (int w = 0; w < 4; w++) {
                    int then = goAll(set, w);
                    int price = spent.get(set) + world.cost(w);
                    if (!spent.containsKey(then) || spent.get(then) > price) {
                        spent.put(then, price);
                        changed = true;
                    }
                }
            }
        }
        int best = NONE;
        for (Map.Entry<Integer, Integer> e : spent.entrySet()) {
            if (Integer.bitCount(e.getKey()) == 1 && (best == NONE || e.getValue() < best)) {
                best = e.getValue();
            }
        }
        return best;
    }

    int apart(int a, int c) {
        mustBe(a, c);
        Set<List<Integer>> seen = new HashSet<>();
        Set<List<Integer>> level = new HashSet<>();
        level.add(List.of(a, c));
        for (int many = 0; !level.isEmpty(); many++) {
            Set<List<Integer>> next = new HashSet<>();
            for (List<Integer> p : level) {
                if (!bells.get(p.get(0)).equals(bells.get(p.get(1)))) {
                    return many;
                }
                seen.add(p);
                for (int w = 0; w < 4; w++) {
                    next.add(List.of(go(p.get(0), w), go(p.get(1), w)));
                }
            }
            next.removeAll(seen);
            level = next;
        }
        return NONE;
    }

    int alike(int c) {
        mustBe(c);
        int set = 0;
        for (int other = 0; other < bells.size(); other++) {
            set |= apart(c, other) == NONE ? 1 << other : 0;
        }
        return set;
    }

    int kinds() {
        Set<Integer> sets = new HashSet<>();
        for (int c = 0; c < bells.size(); c++) {
            sets.add(alike(c));
        }
        return sets.size();
    }

    long rows(int a, int c, int n) {
        mustBe(a, c);
        must(n >= 0 && n <= 30);
        return rows(a, c, n, new HashMap<>());
    }

    private long rows(int a, int c, int n, Map<Integer, Long> known) {
        if (n == 0) {
            return a == c ? 1 : 0;
        }
        Long old = known.get(a * 31 + n);
        if (old != null) {
            return old;
        }
        long many = 0;
        for (int w = 0; w < 4; w++) {
            many += rows(go(a, w), c, n - 1, known);
        }
        known.put(a * 31 + n, many);
        return many;
    }

    int ring(int c, int what) {
        mustBe(c);
        must(what >= 0 && what <= 1);
        List<Integer> been = new ArrayList<>();
        int at = c;
        while (!been.contains(at)) {
            been.add(at);
            for (int w : song) {
                at = go(at, w);
            }
        }
        return what == 0 ? been.size() : been.size() - been.indexOf(at);
    }

    private Map<Integer, Integer> fitting() {
        Map<Integer, Integer> ends = new TreeMap<>();
        for (int c = 0; c < bells.size(); c++) {
            int at = c;
            boolean fits = true;
            for (int i = 0; i < song.size() && i < book.size(); i++) {
                boolean hears = !world.fog.contains(at);
                at = go(at, song.get(i));
                fits &= hears && bells.get(at).equals(book.get(i));
            }
            if (fits) {
                ends.put(c, at);
            }
        }
        return ends;
    }

    int fits() {
        return fogBits(fitting().keySet());
    }

    int now() {
        return fogBits(new HashSet<>(fitting().values()));
    }

    int look(int what) {
        must(what >= 0 && what <= 1);
        Map<Integer, Integer> ends = fitting();
        if (ends.isEmpty()) {
            return NONE;
        }
        int best = NONE;
        int bestWorst = 0;
        for (int w = 0; w < 4; w++) {
            int worst = 0;
            for (int bell = NONE; bell <= 9; bell++) {
                int left = 0;
                for (int at : ends.values()) {
                    int hears = world.fog.contains(at) ? NONE : bells.get(ways[w][at]);
                    left += hears == bell ? 1 : 0;
                }
                worst = Math.max(worst, left);
            }
            if (best == NONE || worst < bestWorst) {
                best = w;
                bestWorst = worst;
            }
        }
        return what == 0 ? best : bestWorst;
    }

    long chance(int a, int c, int n, int q, int half) {
        mustBe(a, c);
        must(n >= 0 && n <= 12 && q >= 0 && q <= 16 && half >= 0 && half <= 1);
        int m = Math.min(n, song.size());
        BigInteger above = BigInteger.ZERO;
        for (int lost = 0; lost < 1 << m; lost++) {
            int at = a;
            BigInteger weight = BigInteger.ONE;
            for (int i = 0; i < m; i++) {
                boolean gone = (lost >> i & 1) == 1;
                weight = weight.multiply(BigInteger.valueOf(gone ? q : 16 - q));
                at = gone ? at : go(at, song.get(i));
            }
            above = at == c ? above.add(weight) : above;
        }
        BigInteger below = BigInteger.valueOf(16).pow(m);
        BigInteger common = above.gcd(below);
        return (half == 0 ? above : below).divide(common).longValueExact();
    }

    /** Who can force it within ever more blows: longer plays than twice the pairs bring nothing new. */
    int duel(int a, int c) {
        mustBe(a, c);
        int size = bells.size();
        int[][] now = new int[size][size];
        for (int i = 0; i < size; i++) {
            now[i][i] = 2;
        }
        for (int plies = 0; plies < 2 * size * size + 2; plies++) {
            int[][] then = new int[size][size];
            for (int i = 0; i < size; i++) {
                for (int j = 0; j < size; j++) {
                    int won = 0;
                    int lost = 0;
                    for (int w = 0; w < 4; w++) {
                        int next = now[go(i, w)][go(j, w)];
                        won += next == 2 ? 1 : 0;
                        lost += next == 1 ? 1 : 0;
                    }
                    then[i][j] = i == j ? 2 : won > 0 ? 1 : lost == 4 ? 2 : 0;
                }
            }
            now = then;
        }
        return now[a][c];
    }

    int reach(int c) {
        mustBe(c);
        ArrayDeque<Integer> open = new ArrayDeque<>();
        int set = 1 << c;
        open.add(c);
        while (!open.isEmpty()) {
            int at = open.remove();
            for (int w = 0; w < 4; w++) {
                if ((set >> go(at, w) & 1) == 0) {
                    set |= 1 << go(at, w);
                    open.add(go(at, w));
                }
            }
        }
        return set;
    }

    int from(int c, int w) {
        mustBe(c);
        must(w >= 0 && w <= 3);
        int set = 0;
        for (int a = 0; a < bells.size(); a++) {
            set |= go(a, w) == c ? 1 << a : 0;
        }
        return set;
    }

    int still() {
        int set = 0;
        for (int a = 0; a < bells.size(); a++) {
            boolean stays = go(a, 0) == a && go(a, 1) == a && go(a, 2) == a && go(a, 3) == a;
            set |= stays ? 1 << a : 0;
        }
        return set;
    }

    int wind() {
        int many = 0;
        for (int w = 0; w < 4; w++) {
            many += world.copy().blow(w) ? 1 : 0;
        }
        return many;
    }

    private long seed;

    private int draw(int by) {
        seed = (seed * 1103515245L + 12345L) & 0xffffffffL;
        return (int) ((seed >> 16 & 0x7fff) % by);
    }

    private World dream(int first, int q, int nights) {
        World w = world.copy();
        seed = first & 0xffffffffL;
        for (int i = 0; i < nights; i++) {
            for (int time = 0; time < 2 && !bells.isEmpty(); time++) {
                w.blow(draw(4));
                if (draw(16) < q) {
                    w.turnFog(draw(bells.size()));
                }
            }
            w.endNight();
        }
        return w;
    }

    int watch(int first, int q, int nights, int what) {
        must(q >= 0 && q <= 16 && nights >= 1 && nights <= 48 && what >= 0 && what <= 3);
        World w = dream(first, q, nights);
        return new int[] {w.where(), w.breath, w.blown - world.blown, fogBits(w.fog)}[what];
    }

    int span(int first, int many, int q, int nights, int what, int c) {
        must(many >= 1 && many <= 10 && q >= 0 && q <= 16 && nights >= 1 && nights <= 48);
        must(what >= 0 && what <= 2 && c >= 0 && c < bells.size());
        int least = Integer.MAX_VALUE;
        int most = 0;
        int there = 0;
        for (int i = 0; i < many; i++) {
            World w = dream(first + i, q, nights);
            least = Math.min(least, w.blown - world.blown);
            most = Math.max(most, w.blown - world.blown);
            there += w.where() >> c & 1;
        }
        return new int[] {least, most, there}[what];
    }

    int image() {
        if (pictures.size() == 3) {
            return -1;
        }
        Picture p = new Picture();
        p.world = world.copy();
        p.undo = new ArrayList<>();
        for (World w : undo) {
            p.undo.add(w.copy());
        }
        pictures.push(p);
        return pictures.size();
    }

    int restore() {
        if (pictures.isEmpty()) {
            return -1;
        }
        Picture p = pictures.pop();
        world = p.world;
        undo = p.undo;
        refused = 0;
        return pictures.size();
    }

    int status(int what) {
        return what == 0 ? missing : what == 1 ? illegal : NONE;
    }

    int count(int what) {
        return what == 0 ? pictures.size() : what == 1 ? tape.length() : what == 2 ? undo.size() : NONE;
    }
}
