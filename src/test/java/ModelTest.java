import java.util.ArrayList;
import java.util.List;
import java.util.Random;

/** Long runs of calls, drawn by fixed seeds, in which the program and PlainWatch must answer alike. */
public final class ModelTest {
    private static final int RUNS = 400;
    private static final int CALLS = 512;

    private final Random draw;
    private final FogWatch x = new FogWatch();
    private final PlainWatch plain = new PlainWatch();
    private final List<String> told = new ArrayList<>();
    private boolean alike = true;
    private int calls = 0;
    private int corners = 0;
    private int men = 0;

    private ModelTest(long seed) {
        draw = new Random(seed);
    }

    public static void main(String[] args) {
        int wrong = 0;
        long all = 0;
        for (int run = 0; run < RUNS && wrong < 5; run++) {
            ModelTest test = new ModelTest(run);
            test.run();
            all += test.calls;
            if (!test.alike) {
                wrong++;
                System.out.println("run " + run + ":");
                for (String row : test.told) {
                    System.out.println("  " + row);
                }
            }
        }
        System.out.println("ModelTest: " + all + " calls in " + RUNS + " runs, " + wrong + " runs unlike");
        if (wrong != 0) {
            System.exit(1);
        }
    }

    private static long plainAnswer(Probe.Call call) {
        try {
            return call.answer();
        } catch (PlainWatch.Missing e) {
            return Probe.MISSING;
        } catch (PlainWatch.Illegal e) {
            return Probe.ILLEGAL;
        }
    }

    private long both(String what, Probe.Call program, Probe.Call model) {
        long want = plainAnswer(model);
        if (calls >= CALLS) {
            // nothing is promised of an object's later calls
            return want;
        }
        calls++;
        long got = Probe.answerOf(program);
        if (told.size() > 40) {
            told.remove(0);
        }
        told.add(what + " -> " + Probe.show(got) + (got == want ? "" : ", the model says " + Probe.show(want)));
        alike &= got == want;
        return want;
    }

    private void run() {
        while (alike && calls < CALLS) {
            int kind = draw.nextInt(100);
            if (kind < 3 || calls < 40 && corners == 0) {
                long answer = text("town", changed(townText()), 0);
                if (answer >= 0) {
                    corners = (int) answer;
                    men = plain.told(1);
                }
            } else if (kind < 7) {
                text("law", changed(law(3)), 150);
            } else if (kind < 20) {
                text("work", changed(workText()), 150);
            } else if (kind < 25) {
                text("song", changed(tune(4, draw.nextInt(8) == 0 ? 20 : 5)), 60);
            } else if (kind < 30) {
                text("book", changed(draw.nextBoolean() ? likelyBook() : tune(10, 3)), 60);
            } else {
                ask(draw.nextInt(40));
            }
        }
    }

    // ---- texts

    private int n(int below) {
        return below <= 0 ? 0 : draw.nextInt(below);
    }

    private String gap() {
        return draw.nextInt(12) == 0 ? "  " : "";
    }

    private String number(int below) {
        String zeros = draw.nextInt(40) == 0 ? "00" : "";
        return " " + gap() + zeros + n(below);
    }

    private String townText() {
        StringBuilder text = new StringBuilder();
        int many = draw.nextInt(4) == 0 ? 10 : 1 + n(7);
        int bells = draw.nextInt(5) == 0 ? 10 : 1 + n(4);
        for (int i = 0; i < many; i++) {
            text.append(gap()).append("corner").append(number(bells)).append(gap()).append(';');
        }
        int roads = n(many * 3 + 1);
        for (int i = 0; i < roads && text.length() < 540; i++) {
            text.append("way").append(number(4)).append(number(many)).append(number(many)).append(';');
        }
        int people = n(6);
        for (int i = 0; i < people && text.length() < 580; i++) {
            text.append("man").append(number(many)).append(';');
        }
        if (draw.nextInt(2) == 0 && text.length() < 580) {
            text.append("breath").append(number(201)).append(';');
        }
        return draw.nextInt(40) == 0 ? "" : text.toString();
    }

    private static final String[] FACTS = {"whistle", "blown", "same", "fog", "men", "night", "breath"};

    private String law(int deep) {
        int kind = n(deep <= 0 ? 5 : 9);
        if (kind < 3) {
            return gap() + FACTS[n(7)];
        }
        if (kind < 5) {
            return gap() + n(draw.nextBoolean() ? 5 : 1000);
        }
        if (kind == 5) {
            return "least" + gap() + "[" + law(deep - 1) + "," + law(deep - 1) + "]";
        }
        if (kind == 6) {
            return "most[" + law(deep - 1) + gap() + "," + law(deep - 1) + "]";
        }
        if (kind == 7 && draw.nextBoolean()) {
            return "(" + law(deep - 1) + ")";
        }
        return law(deep - 1) + gap() + "+-*/%".charAt(n(5)) + law(deep - 1);
    }

    private String workText() {
        StringBuilder text = new StringBuilder();
        int many = n(9);
        for (int i = 0; i < many; i++) {
            text.append(step(2 + n(6)));
        }
        return text.toString();
    }

    private String step(int deep) {
        switch (n(deep > 0 ? 9 : 7)) {
            case 0: case 1: case 2:
                return "blow" + number(4) + ";";
            case 3:
                return corners == 0 ? "night;" : "fog" + number(corners) + gap() + ";";
            case 4:
                return "rest " + (1 + n(60)) + ";";
            case 5:
                return men == 0 ? "rest 9;" : "walk" + number(men) + number(corners) + ";";
            case 6:
                return gap() + "night;";
            default:
                StringBuilder inner = new StringBuilder();
                for (int i = n(3); i > 0; i--) {
                    inner.append(step(deep - 1));
                }
                return "again " + (draw.nextBoolean() ? n(41) : n(4)) + "[" + inner + gap() + "];";
        }
    }

    private String tune(int below, int most) {
        StringBuilder text = new StringBuilder();
        for (int i = n(most + 2); i > 0; i--) {
            text.append(gap()).append(n(below)).append(';');
        }
        return text.toString();
    }

    /** What one who starts at a drawn corner would hear, so that something fits. */
    private String likelyBook() {
        StringBuilder text = new StringBuilder();
        for (int i = n(4); i > 0; i--) {
            text.append(corners == 0 ? 0 : plain.corner(n(corners), 0)).append(';');
        }
        return text.toString();
    }

    /** Now and then a text is spoilt at a place. */
    private String changed(String text) {
        if (draw.nextInt(4) != 0) {
            return text;
        }
        String signs = " ;[](),+-*/%0123456789abcdeghilmnoprstuwyZ\u00e9\t";
        StringBuilder then = new StringBuilder(text);
        for (int times = 1 + n(2); times > 0; times--) {
            int at = n(then.length());
            int kind = n(4);
            if (kind == 0 && then.length() > 0) {
                then.deleteCharAt(at);
            } else if (kind == 1 && then.length() > 0) {
                then.setCharAt(at, signs.charAt(n(signs.length())));
            } else if (kind == 2) {
                then.insert(at, signs.charAt(n(signs.length())));
            } else {
                then.setLength(at);
            }
        }
        return then.toString();
    }

    private long text(String kind, String whole, int most) {
        String text = most > 0 && whole.length() > most + 5 ? whole.substring(0, most) : whole;
        int free = (600 - plain.tape.length()) / 20 * 20;
        if (plain.tape.length() > 0 || text.length() > free) {
            clearTape();
        }
        for (int at = 0; at < text.length(); at += 20) {
            int[] v = new int[5];
            for (int i = 0; i < 20; i++) {
                v[i / 4] = v[i / 4] << 8 | (at + i < text.length() ? text.charAt(at + i) & 255 : 0);
            }
            feed(v);
        }
        int n = draw.nextInt(30) == 0 ? text.length() + n(3) - 1 : text.length();
        String call = kind + "(" + n + ") \"" + text + "\"";
        long answer;
        switch (kind) {
            case "town": answer = both(call, () -> x.town(n), () -> plain.town(n)); break;
            case "law": answer = both(call, () -> x.law(n), () -> plain.law(n)); break;
            case "work": answer = both(call, () -> x.work(n), () -> plain.work(n)); break;
            case "song": answer = both(call, () -> x.song(n), () -> plain.song(n)); break;
            default: answer = both(call, () -> x.book(n), () -> plain.book(n)); break;
        }
        both("fault()", x::fault, () -> plain.faultAt);
        both("told(10)", () -> x.told(10), () -> plain.told(10));
        return answer;
    }

    private void feed(int[] v) {
        both("feed", () -> x.feed(v[0], v[1], v[2], v[3], v[4]), () -> plain.feed(v));
    }

    private void clearTape() {
        both("law(0)", () -> x.law(0), () -> plain.law(0));
    }

    // ---- questions

    /** Mostly one of 0 to most, now and then one beside. */
    private int near(int most) {
        return draw.nextInt(25) == 0 ? (draw.nextBoolean() ? -1 : most + 1) : n(most + 1);
    }

    private int someSet() {
        int kind = n(30);
        if (kind == 0) {
            return draw.nextInt();
        }
        int all = (1 << corners) - 1;
        return kind < 8 ? all : draw.nextInt() & all;
    }

    private void ask(int kind) {
        int a = near(corners - 1);
        int b = near(corners - 1);
        int w = near(3);
        int two = near(1);
        int set = someSet();
        int seed = draw.nextInt();
        int q = near(16);
        int nights = draw.nextInt(20) == 0 ? 49 : n(49);
        switch (kind) {
            case 0: both("undo()", x::undo, plain::undo); break;
            case 1: case 2: askTold(near(11)); break;
            case 3: askCorner(a, near(2)); break;
            case 4: both("way(" + a + "," + w + ")", () -> x.way(a, w), () -> plain.way(a, w)); break;
            case 5: askMan(near(men - 1), near(3)); break;
            case 6: both("cost(" + w + ")", () -> x.cost(w), () -> plain.cost(w)); break;
            case 7: askWould(); break;
            case 8: askAhead(near(99), two); break;
            case 9: both("goes(" + set + ")", () -> x.goes(set), () -> plain.goes(set)); break;
            case 10: case 11:
                both("reset(" + set + "," + two + ")", () -> x.reset(set, two), () -> plain.reset(set, two));
                break;
            case 12: case 13: askRow(set, draw.nextInt(10) == 0 ? -1 : n(12)); break;
            case 14: both("home(" + set + "," + a + ")", () -> x.home(set, a), () -> plain.home(set, a)); break;
            case 15: case 16: both("cheap(" + set + ")", () -> x.cheap(set), () -> plain.cheap(set)); break;
            case 17: both("apart(" + a + "," + b + ")", () -> x.apart(a, b), () -> plain.apart(a, b)); break;
            case 18: both("alike(" + a + ")", () -> x.alike(a), () -> plain.alike(a)); break;
            case 19: both("kinds()", x::kinds, plain::kinds); break;
            case 20: askRows(a, b, near(30)); break;
            case 21: both("ring(" + a + "," + two + ")", () -> x.ring(a, two), () -> plain.ring(a, two)); break;
            case 22: both("fits()", x::fits, plain::fits); break;
            case 23: both("now()", x::now, plain::now); break;
            case 24: both("look(" + two + ")", () -> x.look(two), () -> plain.look(two)); break;
            case 25: askChance(a, b, near(12), q, two); break;
            case 26: case 27: both("duel(" + a + "," + b + ")", () -> x.duel(a, b), () -> plain.duel(a, b)); break;
            case 28: both("reach(" + a + ")", () -> x.reach(a), () -> plain.reach(a)); break;
            case 29: both("from(" + a + "," + w + ")", () -> x.from(a, w), () -> plain.from(a, w)); break;
            case 30: both("still()", x::still, plain::still); break;
            case 31: both("wind()", x::wind, plain::wind); break;
            case 32: case 33: askWatch(seed, q, nights, near(3)); break;
            case 34: askSpan(new int[] {seed, 1 + near(9), q, nights, near(2), a}); break;
            case 35: askImages(); break;
            case 36: both("restore()", x::restore, plain::restore); break;
            case 37: both("status(" + w + ")", () -> x.status(w), () -> plain.status(w)); break;
            case 38: both("count(" + w + ")", () -> x.count(w), () -> plain.count(w)); break;
            default: askAll(); break;
        }
    }

    /** Images and works undone come in handfuls, so that what they hold has been written over by others. */
    private void askImages() {
        for (int i = 1 + n(6); i > 0; i--) {
            int kind = n(6);
            if (kind == 0) {
                both("image()", x::image, plain::image);
            } else if (kind == 1) {
                both("restore()", x::restore, plain::restore);
            } else if (kind < 4) {
                both("undo()", x::undo, plain::undo);
            } else {
                text("work", workText(), 150);
            }
        }
    }

    private void askTold(int what) {
        both("told(" + what + ")", () -> x.told(what), () -> plain.told(what));
    }

    private void askCorner(int c, int what) {
        both("corner(" + c + "," + what + ")", () -> x.corner(c, what), () -> plain.corner(c, what));
    }

    private void askMan(int m, int what) {
        both("man(" + m + "," + what + ")", () -> x.man(m, what), () -> plain.man(m, what));
    }

    private void askWould() {
        int[] f = {near(3), near(999), near(999), near(10), near(5), near(400), near(200)};
        both("would", () -> x.would(f[0], f[1], f[2], f[3], f[4], f[5], f[6]), () -> plain.would(f));
    }

    private void askAhead(int n, int what) {
        both("ahead(" + n + "," + what + ")", () -> x.ahead(n, what), () -> plain.ahead(n, what));
    }

    private void askRow(int set, int k) {
        both("row(" + set + "," + k + ")", () -> x.row(set, k), () -> plain.row(set, k));
    }

    private void askRows(int a, int b, int n) {
        both("rows(" + a + "," + b + "," + n + ")", () -> x.rows(a, b, n), () -> plain.rows(a, b, n));
    }

    private void askChance(int a, int b, int n, int q, int half) {
        both("chance(" + a + "," + b + "," + n + "," + q + "," + half + ")",
            () -> x.chance(a, b, n, q, half), () -> plain.chance(a, b, n, q, half));
    }

    private void askWatch(int seed, int q, int nights, int what) {
        both("watch(" + seed + "," + q + "," + nights + "," + what + ")",
            () -> x.watch(seed, q, nights, what), () -> plain.watch(seed, q, nights, what));
    }

    private void askSpan(int[] v) {
        both("span(" + java.util.Arrays.toString(v) + ")",
            () -> x.span(v[0], v[1], v[2], v[3], v[4], v[5]), () -> plain.span(v[0], v[1], v[2], v[3], v[4], v[5]));
    }

    /** All that work changes, at once. */
    private void askAll() {
        for (int what = 0; what <= 11; what++) {
            askTold(what);
        }
        for (int m = 0; m < men; m++) {
            for (int what = 0; what <= 3; what++) {
                askMan(m, what);
            }
        }
        for (int c = 0; c < corners; c++) {
            askCorner(c, 1);
            askCorner(c, 2);
        }
    }
}
