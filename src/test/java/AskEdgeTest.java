/** The edges of what is asked (Terms, ==== 3; promises 16 to 37): none, all ten, in fog, no such row, chances at 0 and 1. */
public final class AskEdgeTest {
    private static final int NONE = FogWatch.NONE;
    private static final long MISSING = Probe.MISSING;
    private static final long ILLEGAL = Probe.ILLEGAL;
    private static final int LOWEST = Integer.MIN_VALUE;
    private static final int HIGHEST = Integer.MAX_VALUE;

    // a ring of four by whistle 0; whistle 1 brings 3 to 0
    private static final String RING = "corner 1;corner 2;corner 1;corner 3;way 0 0 1;way 0 1 2;way 0 2 3;"
        + "way 0 3 0;way 1 3 0;man 0;man 2;man 2;";
    private static final String TEN = Probe.times("corner 0;", 10);
    // a ring of ten by whistle 0; whistle 1 brings 9 to 0
    private static final String TEN_RING = TEN + "way 0 0 1;way 0 1 2;way 0 2 3;way 0 3 4;way 0 4 5;way 0 5 6;"
        + "way 0 6 7;way 0 7 8;way 0 8 9;way 0 9 0;way 1 9 0;";
    private static final String ALL_FOG = "fog 0;fog 1;fog 2;fog 3;";

    private final Probe probe = new Probe();

    public static void main(String[] args) {
        AskEdgeTest test = new AskEdgeTest();
        test.aheadBounds();
        test.aheadInFog();
        test.aheadOfTheLastNight();
        test.goesBounds();
        test.goesBySong();
        test.setsOfNoCorners();
        test.resetOfOneAndNone();
        test.resetLongest();
        test.resetFirstOfAlike();
        test.resetNone();
        test.rowBounds();
        test.homes();
        test.cheaps();
        test.cheapNow();
        test.apartBounds();
        test.apartByRows();
        test.alikes();
        test.kindsOfAll();
        test.rowsCounted();
        test.rings();
        test.fitsBounds();
        test.fitsInFog();
        test.nows();
        test.looks();
        test.chancesAtTheirEdges();
        test.chancesBySong();
        test.duels();
        test.reaches();
        test.froms();
        test.stills();
        test.winds();
        test.watchBounds();
        test.watchDraws();
        test.watchEdges();
        test.spanBounds();
        test.spanSeeds();
        test.probe.close("AskEdgeTest");
    }

    private void due(String what, long want, Probe.Call call) {
        probe.due(what, want, call);
    }

    private static FogWatch in(String town, String work) {
        FogWatch x = Probe.in(town);
        Probe.work(x, work);
        return x;
    }

    private static FogWatch tuned(String town, String song, String book) {
        FogWatch x = Probe.in(town);
        Probe.song(x, song);
        Probe.book(x, book);
        return x;
    }

    // ---- promise 16

    private void aheadBounds() {
        FogWatch x = in(RING, "fog 3;");
        due("ahead 0 is now", 8, () -> x.ahead(0, 0));
        due("ahead 0, men", 0, () -> x.ahead(0, 1));
        due("ahead 99", 4, () -> x.ahead(99, 0));
        due("ahead 99, men", 6, () -> x.ahead(99, 1));
        due("ahead -1", ILLEGAL, () -> x.ahead(-1, 0));
        due("ahead 100", ILLEGAL, () -> x.ahead(100, 0));
        due("ahead lowest", ILLEGAL, () -> x.ahead(LOWEST, 0));
        due("ahead highest", ILLEGAL, () -> x.ahead(HIGHEST, 1));
        due("ahead what -1", ILLEGAL, () -> x.ahead(0, -1));
        due("ahead what 2", ILLEGAL, () -> x.ahead(0, 2));
        due("no night came", 0, () -> x.told(3));
    }

    private void aheadInFog() {
        FogWatch none = new FogWatch();
        due("of no corners", 0, () -> none.ahead(7, 0));
        due("of no corners, men", 0, () -> none.ahead(7, 1));
        FogWatch clear = Probe.in(RING);
        due("no fog", 0, () -> clear.ahead(5, 0));
        due("no fog, no man in it", 0, () -> clear.ahead(5, 1));
        FogWatch all = in(RING, ALL_FOG);
        due("all in fog", 15, () -> all.ahead(3, 0));
        due("all men in fog", 7, () -> all.ahead(3, 1));
        FogWatch ten = in(TEN + "man 0;man 9;", "fog 9;");
        due("behind the last one comes corner 0", 1, () -> ten.ahead(1, 0));
        due("his is in fog then", 1, () -> ten.ahead(1, 1));
        due("round", 512, () -> ten.ahead(90, 0));
        due("round, men", 2, () -> ten.ahead(90, 1));
        due("nearly round", 256, () -> ten.ahead(99, 0));
        FogWatch one = in("corner 0;man 0;", "fog 0;");
        due("one corner", 1, () -> one.ahead(99, 0));
    }

    /** Nights of work end at 400; what is asked here goes on. */
    private void aheadOfTheLastNight() {
        FogWatch x = in(RING, "fog 3;");
        for (int i = 0; i < 2; i++) {
            due("160 nights", 160, () -> Probe.work(x, "again 40[night;night;night;night;];"));
        }
        due("80 nights", 80, () -> Probe.work(x, "again 40[night;night;];night;"));
        due("night", 400, () -> x.told(3));
        due("one was refused", 1, () -> x.told(10));
        due("fog now", 8, () -> x.ahead(0, 0));
        due("fog in one night", 1, () -> x.ahead(1, 0));
        due("men in fog in one night", 1, () -> x.ahead(1, 1));
        due("fog in 99 nights", 4, () -> x.ahead(99, 0));
    }

    // ---- promise 17

    private void goesBounds() {
        FogWatch x = Probe.in(RING);
        due("goes of no corners", 0, () -> x.goes(0));
        due("goes of all, no song", 15, () -> x.goes(15));
        due("goes 16", ILLEGAL, () -> x.goes(16));
        due("goes 31", ILLEGAL, () -> x.goes(31));
        due("goes -1", ILLEGAL, () -> x.goes(-1));
        due("goes lowest", ILLEGAL, () -> x.goes(LOWEST));
        due("goes highest", ILLEGAL, () -> x.goes(HIGHEST));
        FogWatch ten = Probe.in(TEN);
        due("goes 1023", 1023, () -> ten.goes(1023));
        due("goes 1024", ILLEGAL, () -> ten.goes(1024));
        FogWatch none = new FogWatch();
        due("goes in no town", 0, () -> none.goes(0));
        due("goes 1 in no town", ILLEGAL, () -> none.goes(1));
    }

    private void goesBySong() {
        FogWatch ten = tuned(TEN_RING, Probe.times("0;", 20), "");
        due("twenty whistles are twice round", 513, () -> ten.goes(513));
        Probe.song(ten, Probe.times("0;", 19));
        due("nineteen are one short", 768, () -> ten.goes(513));
        FogWatch fog = tuned(RING, "0;0;0;0;0;", "");
        Probe.work(fog, "fog 2;");
        due("who comes into fog stays", 4, () -> fog.goes(15));
        Probe.work(fog, "fog 2;" + ALL_FOG);
        due("all in fog", 15, () -> fog.goes(15));
        due("one in fog", 2, () -> fog.goes(2));
        due("nobody is moved", 5, () -> fog.told(7));
    }

    // ---- promises 18 to 21

    private void setsOfNoCorners() {
        for (FogWatch x : new FogWatch[] {new FogWatch(), Probe.in(RING), in(RING, ALL_FOG)}) {
            due("reset of none", 0, () -> x.reset(0, 0));
            due("where, of none", NONE, () -> x.reset(0, 1));
            due("row of none", NONE, () -> x.row(0, 0));
            due("row of none", NONE, () -> x.row(0, HIGHEST));
            due("cheap of none", 0, () -> x.cheap(0));
            due("home of none", x.told(0) == 0 ? MISSING : 0, () -> x.home(0, 0));
            int beyond = 1 << x.told(0);
            due("reset beyond", ILLEGAL, () -> x.reset(beyond, 0));
            due("row beyond", ILLEGAL, () -> x.row(beyond, 0));
            due("cheap beyond", ILLEGAL, () -> x.cheap(beyond));
            due("home beyond", x.told(0) == 0 ? MISSING : ILLEGAL, () -> x.home(beyond, 0));
            due("reset below", ILLEGAL, () -> x.reset(-1, 0));
            due("row below", ILLEGAL, () -> x.row(-1, 0));
            due("cheap below", ILLEGAL, () -> x.cheap(-1));
            due("reset lowest", ILLEGAL, () -> x.reset(LOWEST, 1));
            due("cheap lowest", ILLEGAL, () -> x.cheap(LOWEST));
        }
    }

    private void resetOfOneAndNone() {
        FogWatch x = Probe.in(TEN_RING);
        for (int corner = 0; corner < 10; corner++) {
            int c = corner;
            due("reset of one", 0, () -> x.reset(1 << c, 0));
            due("where, of one", c, () -> x.reset(1 << c, 1));
            due("row of one", NONE, () -> x.row(1 << c, 0));
            due("cheap of one", 0, () -> x.cheap(1 << c));
            due("home of one", (10 - c) % 10, () -> x.home(1 << c, 0));
        }
        due("reset what -1", ILLEGAL, () -> x.reset(1, -1));
        due("reset what 2", ILLEGAL, () -> x.reset(1, 2));
        due("reset what lowest", ILLEGAL, () -> x.reset(0, LOWEST));
    }

    private void resetLongest() {
        FogWatch x = Probe.in(TEN_RING);
        due("nine times nine", 81, () -> x.reset(1023, 0));
        due("where", 0, () -> x.reset(1023, 1));
        for (int k = 0; k < 81; k++) {
            int at = k;
            due("whistle " + k, k % 10 == 0 ? 1 : 0, () -> x.row(1023, at));
        }
        due("no more", NONE, () -> x.row(1023, 81));
        due("all home to 0", 81, () -> x.home(1023, 0));
        due("all home to 9", 90, () -> x.home(1023, 9));
        due("cheap", 81, () -> x.cheap(1023));
        due("asked first, nothing is moved", 0, () -> x.told(5));
    }

    private void resetFirstOfAlike() {
        // 0 then 2 or 3, or 1 then 0 bring 0 and 1 together
        FogWatch x = Probe.in(Probe.times("corner 0;", 6) + "way 0 0 2;way 0 1 3;way 2 2 3;way 3 2 3;"
            + "way 1 0 4;way 1 1 5;way 0 4 5;");
        due("two", 2, () -> x.reset(3, 0));
        due("the first place", 0, () -> x.row(3, 0));
        due("the second place", 2, () -> x.row(3, 1));
        due("where", 3, () -> x.reset(3, 1));
        // fewest goes ahead of first: 3 alone, though 0 0 does it, too
        FogWatch y = Probe.in("corner 0;corner 0;corner 0;way 0 0 1;way 0 1 2;way 3 0 2;way 3 1 2;");
        due("one", 1, () -> y.reset(7, 0));
        due("the only one", 3, () -> y.row(7, 0));
        due("no second", NONE, () -> y.row(7, 1));
    }

    private void resetNone() {
        FogWatch apart = Probe.in("corner 0;corner 0;");
        due("no such row", NONE, () -> apart.reset(3, 0));
        due("no such row, where", NONE, () -> apart.reset(3, 1));
        due("no such row, row", NONE, () -> apart.row(3, 0));
        due("no such row, cheap", NONE, () -> apart.cheap(3));
        due("no such row, home", NONE, () -> apart.home(3, 0));
        due("no such way home", NONE, () -> apart.home(1, 1));
        FogWatch fog = Probe.in(RING);
        due("there is a row", 9, () -> fog.reset(15, 0));
        Probe.work(fog, ALL_FOG);
        due("none in fog", NONE, () -> fog.reset(15, 0));
        due("none in fog, where", NONE, () -> fog.reset(15, 1));
        due("none in fog, row", NONE, () -> fog.row(15, 0));
        due("none in fog, cheap", NONE, () -> fog.cheap(15));
        due("none in fog, home", NONE, () -> fog.home(15, 0));
        due("of one in fog", 0, () -> fog.reset(8, 0));
        due("of one in fog, where", 3, () -> fog.reset(8, 1));
        fog.undo();
        due("the fog is gone", 9, () -> fog.reset(15, 0));
        due("the fog is gone, row", 1, () -> fog.row(15, 8));
        Probe.town(fog, "corner 0;corner 0;corner 0;corner 0;way 2 0 1;way 2 1 1;way 2 2 1;way 2 3 1;");
        due("another town", 1, () -> fog.reset(15, 0));
        due("another town, row", 2, () -> fog.row(15, 0));
    }

    private void rowBounds() {
        FogWatch x = Probe.in(RING);
        due("row 8", 1, () -> x.row(15, 8));
        due("row 9", NONE, () -> x.row(15, 9));
        due("row highest", NONE, () -> x.row(15, HIGHEST));
        due("row -1", ILLEGAL, () -> x.row(15, -1));
        due("row lowest", ILLEGAL, () -> x.row(15, LOWEST));
        due("row -1 of none", ILLEGAL, () -> x.row(0, -1));
        due("row of two", 1, () -> x.row(9, 0));
        due("row of all, asked behind another set", 1, () -> x.row(15, 4));
        due("home between", 11, () -> x.home(15, 2));
        due("row of all, asked behind home", 0, () -> x.row(15, 5));
        due("cheap between", 9, () -> x.cheap(15));
        due("row of all, asked behind cheap", 1, () -> x.row(15, 8));
        Probe.law(x, "7");
        due("dearer now", 63, () -> x.cheap(15));
        due("no more whistles by that", 9, () -> x.reset(15, 0));
        due("nor a longer row", NONE, () -> x.row(15, 9));
    }

    private void homes() {
        FogWatch x = Probe.in(RING);
        due("home at once", 0, () -> x.home(8, 3));
        due("home by the ring", 3, () -> x.home(1, 3));
        due("no such corner 4", MISSING, () -> x.home(1, 4));
        due("no such corner -1", MISSING, () -> x.home(1, -1));
        due("no such corner, whatever the bits", MISSING, () -> x.home(16, 4));
        due("no such corner, whatever the bits", MISSING, () -> x.home(-1, HIGHEST));
        due("bits of none", ILLEGAL, () -> x.home(16, 3));
        due("bits of none", ILLEGAL, () -> x.home(LOWEST, 3));
        // at one corner first, and on to the one that is home
        due("reset and on", 10, () -> x.home(15, 1));
        Probe.work(x, "fog 1;");
        due("into fog", 1, () -> x.home(3, 1));
        due("out of fog nobody", NONE, () -> x.home(2, 2));
        due("who is in fog is home there", 0, () -> x.home(2, 1));
    }

    private void cheaps() {
        // 0 brings both to 2 at once, 1 by two
        String town = "corner 0;corner 0;corner 0;way 0 0 2;way 0 1 2;way 1 0 1;way 1 1 2;";
        FogWatch x = Probe.in(town);
        Probe.law(x, "60*(1-whistle)");
        due("for nothing, though of more", 0, () -> x.cheap(3));
        Probe.law(x, "60-whistle*31");
        due("two of 29 are less than 60", 58, () -> x.cheap(3));
        Probe.law(x, "60-whistle*30");
        due("alike", 60, () -> x.cheap(3));
        Probe.law(x, "60-whistle*29");
        due("one of 60 is less than two of 31", 60, () -> x.cheap(3));
        Probe.law(x, "999");
        due("each at 60 at most", 60, () -> x.cheap(7));
        Probe.law(x, "0-9");
        due("each at 0 at least", 0, () -> x.cheap(7));
        FogWatch ten = Probe.in(TEN_RING);
        Probe.law(ten, "60");
        due("the dearest", 81 * 60, () -> ten.cheap(1023));
        Probe.law(ten, "whistle*60");
        due("only the merging ones cost", 9 * 60, () -> ten.cheap(1023));
        Probe.law(ten, "(1-whistle)*60");
        due("only the turning ones cost", 72 * 60, () -> ten.cheap(1023));
        due("breath is not asked for", 60, () -> ten.told(2));
        // neither 0 nor 1 can be blown, which is not asked here; 2 and 3 cost nothing and lead nowhere
        FogWatch breathless = Probe.in(town + "breath 0;");
        Probe.law(breathless, "60-whistle*31");
        due("breath for 2 and 3 alone", 2, breathless::wind);
        due("each dearer than the breath", 58, () -> breathless.cheap(3));
        due("by how many", 1, () -> breathless.reset(3, 0));
        due("home all the same", 1, () -> breathless.home(3, 2));
    }

    private void cheapNow() {
        FogWatch x = Probe.in("corner 0;corner 0;corner 0;way 0 0 1;way 0 1 2;way 0 2 2;way 1 0 2;way 1 1 2;");
        Probe.law(x, "1+same*3");
        due("1 now", 1, () -> x.cheap(7));
        Probe.work(x, "blow 1;");
        // 1 costs 4 now; twice 0 is 2, as each stays at its cost now
        due("each at its cost now", 2, () -> x.cheap(7));
        Probe.work(x, "fog 1;");
        due("in fog", NONE, () -> x.cheap(7));
        due("in fog, two of them", 4, () -> x.cheap(5));
    }

    // ---- promises 22 to 24

    private void apartBounds() {
        FogWatch x = Probe.in(RING);
        due("no such corner 4", MISSING, () -> x.apart(4, 0));
        due("no such other 4", MISSING, () -> x.apart(0, 4));
        due("no such corner -1", MISSING, () -> x.apart(-1, 0));
        due("no such other lowest", MISSING, () -> x.apart(0, LOWEST));
        due("now", 0, () -> x.apart(0, 1));
        due("itself", NONE, () -> x.apart(3, 3));
        Probe.work(x, ALL_FOG);
        due("unlike bells in fog", 0, () -> x.apart(0, 1));
        due("alike bells in fog", NONE, () -> x.apart(0, 2));
    }

    private void apartByRows() {
        // the bell of 9 is another one: from 0 and 1 it takes eight
        FogWatch x = Probe.in(Probe.times("corner 0;", 9) + "corner 1;way 3 0 1;way 3 1 2;way 3 2 3;way 3 3 4;way 3 4 5;"
            + "way 3 5 6;way 3 6 7;way 3 7 8;way 3 8 9;");
        for (int corner = 0; corner < 9; corner++) {
            int c = corner;
            due("to the bell", 9 - (c + 1), () -> x.apart(c, c + 1));
            due("turned round", 9 - (c + 1), () -> x.apart(c + 1, c));
        }
        due("the nearer one counts", 1, () -> x.apart(0, 8));
        Probe.work(x, "fog 5;");
        due("held by fog", NONE, () -> x.apart(0, 4));
        due("one is held", 1, () -> x.apart(0, 8));
        due("neither comes through", NONE, () -> x.apart(0, 5));
    }

    private void alikes() {
        FogWatch x = Probe.in(TEN);
        due("all", 1023, () -> x.alike(9));
        due("no such corner 10", MISSING, () -> x.alike(10));
        due("no such corner -1", MISSING, () -> x.alike(-1));
        FogWatch one = Probe.in("corner 5;");
        due("itself", 1, () -> one.alike(0));
        FogWatch ring = Probe.in(RING);
        due("itself alone", 4, () -> ring.alike(2));
        Probe.work(ring, ALL_FOG);
        due("by bells in fog", 5, () -> ring.alike(2));
        due("by bells in fog", 8, () -> ring.alike(3));
    }

    private void kindsOfAll() {
        due("none", 0, () -> new FogWatch().kinds());
        due("one", 1, () -> Probe.in("corner 0;").kinds());
        due("ten alike", 1, () -> Probe.in(TEN).kinds());
        due("ten alike in a ring", 1, () -> Probe.in(TEN_RING).kinds());
        due("ten unlike", 10, () -> Probe.in("corner 0;corner 1;corner 2;corner 3;corner 4;corner 5;corner 6;corner 7;"
            + "corner 8;corner 9;").kinds());
        due("four", 4, () -> Probe.in(RING).kinds());
        due("three in fog", 3, () -> in(RING, ALL_FOG).kinds());
    }

    // ---- promises 25 and 26

    private void rowsCounted() {
        FogWatch x = Probe.in(RING);
        due("none is one row", 1, () -> x.rows(2, 2, 0));
        due("none leads nowhere else", 0, () -> x.rows(2, 3, 0));
        due("n -1", ILLEGAL, () -> x.rows(0, 0, -1));
        due("n 31", ILLEGAL, () -> x.rows(0, 0, 31));
        due("n lowest", ILLEGAL, () -> x.rows(0, 0, LOWEST));
        due("no such corner, whatever n", MISSING, () -> x.rows(4, 0, 31));
        due("no such other, whatever n", MISSING, () -> x.rows(0, 4, -1));
        due("no such corner -1", MISSING, () -> x.rows(-1, 0, 0));
        long all = 0;
        for (int other = 0; other < 4; other++) {
            all += x.rows(1, other, 30);
        }
        long sum = all;
        due("all rows of thirty", 1L << 60, () -> sum);
        FogWatch one = Probe.in("corner 0;");
        due("the most", 1L << 60, () -> one.rows(0, 0, 30));
        due("of 29", 1L << 58, () -> one.rows(0, 0, 29));
        Probe.work(x, "fog 2;");
        due("from fog all stay", 1L << 60, () -> x.rows(2, 2, 30));
        due("from fog none goes", 0, () -> x.rows(2, 3, 30));
        due("through fog none goes", 0, () -> x.rows(0, 3, 30));
    }

    private void rings() {
        FogWatch x = Probe.in(RING);
        due("no song: behind one", 1, () -> x.ring(3, 0));
        due("no song: one between", 1, () -> x.ring(3, 1));
        due("what -1", ILLEGAL, () -> x.ring(0, -1));
        due("what 2", ILLEGAL, () -> x.ring(0, 2));
        due("no such corner, whatever what", MISSING, () -> x.ring(4, 2));
        due("no such corner -1", MISSING, () -> x.ring(-1, 0));
        FogWatch line = tuned(TEN + "way 0 0 1;way 0 1 2;way 0 2 3;way 0 3 4;way 0 4 5;way 0 5 6;way 0 6 7;way 0 7 8;"
            + "way 0 8 9;", "0;", "");
        due("down a line of ten and once more", 10, () -> line.ring(0, 0));
        due("one between", 1, () -> line.ring(0, 1));
        due("at its end", 1, () -> line.ring(9, 0));
        FogWatch ten = tuned(TEN_RING, "0;", "");
        due("round", 10, () -> ten.ring(9, 0));
        due("round, between", 10, () -> ten.ring(9, 1));
        Probe.song(ten, "0;0;0;0;0;");
        due("by five", 2, () -> ten.ring(9, 0));
        due("by five, between", 2, () -> ten.ring(9, 1));
        Probe.song(ten, Probe.times("0;", 20));
        due("by twenty", 1, () -> ten.ring(4, 0));
        Probe.song(ten, "0;0;0;");
        due("by three", 10, () -> ten.ring(0, 0));
        Probe.work(ten, "fog 4;");
        due("into fog", 3, () -> ten.ring(0, 0));
        due("into fog, between", 1, () -> ten.ring(0, 1));
        due("in fog", 1, () -> ten.ring(4, 0));
        FogWatch tail = tuned("corner 0;corner 0;corner 0;corner 0;way 0 0 1;way 0 1 2;way 0 2 3;way 0 3 2;", "0;", "");
        due("behind an earlier one", 4, () -> tail.ring(0, 0));
        due("behind an earlier one, between", 2, () -> tail.ring(0, 1));
    }

    // ---- promises 27 to 29

    private void fitsBounds() {
        FogWatch none = new FogWatch();
        due("no corners", 0, none::fits);
        due("no corners, now", 0, none::now);
        Probe.song(none, "0;");
        Probe.book(none, "0;");
        due("no corners, with both", 0, none::fits);
        FogWatch x = tuned(RING, "", "");
        due("neither", 15, x::fits);
        Probe.book(x, "9;9;9;");
        due("a book alone", 15, x::fits);
        due("a book alone, now", 15, x::now);
        Probe.song(x, "0;");
        due("a bell that is none", 0, x::fits);
        Probe.book(x, "2;9;9;");
        due("as far as the song goes", 1, x::fits);
        due("as far as the song goes, now", 2, x::now);
        Probe.song(x, "0;0;0;");
        Probe.book(x, "2;");
        due("as far as the book goes", 1, x::fits);
        due("as far as the book goes, now", 2, x::now);
        Probe.book(x, "2;1;3;");
        due("as far as both go", 1, x::fits);
        due("as far as both go, now", 8, x::now);
        Probe.book(x, "2;1;1;");
        due("the last bell counts", 0, x::fits);
        due("the last bell counts, now", 0, x::now);
        FogWatch ten = tuned(TEN_RING, Probe.times("0;", 20), Probe.times("0;", 20));
        due("all ten by twenty", 1023, ten::fits);
        Probe.book(ten, Probe.times("0;", 19) + "1;");
        due("none by the twentieth", 0, ten::fits);
    }

    private void fitsInFog() {
        FogWatch x = tuned(RING, "0;0;", "1;");
        due("without fog", 10, x::fits);
        Probe.work(x, "fog 1;");
        due("who is in fog hears none", 8, x::fits);
        Probe.book(x, "2;");
        due("who goes into fog hears its bell", 1, x::fits);
        Probe.book(x, "2;1;");
        due("and none behind it", 0, x::fits);
        due("nowhere", 0, x::now);
        due("nothing to blow", NONE, () -> x.look(0));
        Probe.book(x, "2;2;");
        due("nor its own bell again", 0, x::fits);
        Probe.work(x, "fog 0;fog 2;fog 3;");
        Probe.book(x, "1;");
        due("all in fog", 0, x::fits);
        Probe.book(x, "");
        due("all in fog, nothing heard", 15, x::fits);
        due("all in fog, nothing heard, now", 15, x::now);
    }

    private void nows() {
        FogWatch x = tuned("corner 0;corner 0;corner 0;way 0 0 2;way 0 1 2;", "0;1;", "0;0;");
        due("three fit", 7, x::fits);
        due("all are at one", 4, x::now);
        Probe.song(x, "");
        due("no whistles: where they were", 7, x::now);
        FogWatch ten = tuned(TEN_RING, "0;", "0;");
        due("all ten", 1023, ten::now);
    }

    private void looks() {
        FogWatch none = new FogWatch();
        due("no corners", NONE, () -> none.look(0));
        due("no corners, left", NONE, () -> none.look(1));
        FogWatch ten = Probe.in(TEN);
        due("nothing tells: the first", 0, () -> ten.look(0));
        due("nothing tells: all are left", 10, () -> ten.look(1));
        due("what -1", ILLEGAL, () -> ten.look(-1));
        due("what 2", ILLEGAL, () -> ten.look(2));
        due("what lowest", ILLEGAL, () -> none.look(LOWEST));
        FogWatch one = Probe.in("corner 9;");
        due("one fits: the first", 0, () -> one.look(0));
        due("one fits: one is left", 1, () -> one.look(1));
        // only whistle 3 brings 1 to another bell
        FogWatch last = Probe.in("corner 0;corner 0;corner 9;way 3 1 2;");
        due("the bell of 2 is told by any", 0, () -> last.look(0));
        due("two are left", 2, () -> last.look(1));
        FogWatch three = Probe.in("corner 0;corner 0;corner 0;corner 9;way 3 0 3;way 2 0 3;way 2 1 3;way 2 2 3;");
        due("3 leaves two of each", 3, () -> three.look(0));
        due("two at the worst", 2, () -> three.look(1));
        // in fog none is heard, which is told from every bell
        FogWatch fog = in("corner 0;corner 0;corner 9;", "fog 0;fog 2;");
        due("two in fog", 2, () -> fog.look(1));
        Probe.work(fog, "fog 2;");
        due("one in fog", 1, () -> fog.look(1));
        Probe.work(fog, "fog 1;fog 2;");
        due("all in fog", 3, () -> fog.look(1));
        due("all in fog: the first", 0, () -> fog.look(0));
        // fits are counted: 0 and 1 are both at 1 then
        FogWatch joined = tuned("corner 0;corner 0;corner 0;way 0 0 1;way 0 1 1;way 0 2 2;", "0;", "0;");
        due("now two corners", 6, joined::now);
        due("left of three fits", 3, () -> joined.look(1));
        FogWatch every = Probe.in("corner 0;corner 1;corner 2;corner 3;corner 4;corner 5;corner 6;corner 7;corner 8;corner 9;");
        due("ten bells", 1, () -> every.look(1));
        Probe.work(every, "fog 9;");
        due("nine bells and none", 1, () -> every.look(1));
    }

    // ---- promise 30

    private void chance(FogWatch x, int from, int to, int n, int q, long above, long below) {
        due("above", above, () -> x.chance(from, to, n, q, 0));
        due("below", below, () -> x.chance(from, to, n, q, 1));
    }

    private void chancesAtTheirEdges() {
        FogWatch x = tuned("corner 0;corner 0;way 0 0 1;", Probe.times("0;", 20), "");
        chance(x, 0, 0, 0, 8, 1, 1);
        chance(x, 0, 1, 0, 8, 0, 1);
        chance(x, 0, 1, 12, 0, 1, 1);
        chance(x, 0, 0, 12, 0, 0, 1);
        chance(x, 0, 0, 12, 16, 1, 1);
        chance(x, 0, 1, 12, 16, 0, 1);
        chance(x, 0, 0, 12, 1, 1, 281474976710656L);
        chance(x, 0, 1, 12, 1, 281474976710655L, 281474976710656L);
        chance(x, 0, 0, 12, 15, 129746337890625L, 281474976710656L);
        chance(x, 0, 0, 12, 8, 1, 4096);
        chance(x, 0, 0, 1, 8, 1, 2);
        chance(x, 0, 0, 1, 6, 3, 8);
        chance(x, 0, 1, 1, 12, 1, 4);
        chance(x, 1, 1, 12, 7, 1, 1);
        due("n -1", ILLEGAL, () -> x.chance(0, 0, -1, 0, 0));
        due("n 13", ILLEGAL, () -> x.chance(0, 0, 13, 0, 0));
        due("q -1", ILLEGAL, () -> x.chance(0, 0, 0, -1, 0));
        due("q 17", ILLEGAL, () -> x.chance(0, 0, 0, 17, 0));
        due("half -1", ILLEGAL, () -> x.chance(0, 0, 0, 0, -1));
        due("half 2", ILLEGAL, () -> x.chance(0, 0, 0, 0, 2));
        due("no such corner, whatever else", MISSING, () -> x.chance(2, 0, 13, 17, 2));
        due("no such other, whatever else", MISSING, () -> x.chance(0, 2, -1, -1, -1));
        due("no such corner -1", MISSING, () -> x.chance(-1, 0, 0, 0, 0));
        due("no such other lowest", MISSING, () -> x.chance(0, LOWEST, 0, 0, 0));
    }

    private void chancesBySong() {
        FogWatch x = Probe.in(RING);
        chance(x, 2, 2, 12, 5, 1, 1);
        chance(x, 2, 3, 12, 5, 0, 1);
        Probe.song(x, "0;");
        chance(x, 0, 1, 12, 8, 1, 2);
        chance(x, 0, 0, 1, 8, 1, 2);
        Probe.song(x, "0;0;0;0;");
        // the first n alone: one of two lost is 1 of 2, none lost is 1 of 4
        chance(x, 0, 1, 2, 8, 1, 2);
        chance(x, 0, 2, 2, 8, 1, 4);
        chance(x, 0, 0, 4, 0, 1, 1);
        // round the ring: none or all four lost
        chance(x, 0, 0, 4, 8, 1, 8);
        Probe.work(x, "fog 1;");
        chance(x, 1, 1, 4, 8, 1, 1);
        chance(x, 0, 1, 4, 8, 15, 16);
        chance(x, 0, 2, 4, 8, 0, 1);
    }

    // ---- promises 31 to 35

    private void duels() {
        FogWatch x = Probe.in(RING);
        due("both at one now", 2, () -> x.duel(0, 0));
        due("by one whistle", 1, () -> x.duel(0, 3));
        due("neither: one can always turn", 0, () -> x.duel(0, 2));
        due("no such corner 4", MISSING, () -> x.duel(4, 0));
        due("no such other 4", MISSING, () -> x.duel(0, 4));
        due("no such corner -1", MISSING, () -> x.duel(-1, -1));
        Probe.work(x, ALL_FOG);
        due("at one in fog", 2, () -> x.duel(1, 1));
        due("apart in fog", 0, () -> x.duel(0, 3));
        String down = "";
        // every whistle brings 0 to 1, .. 8 to 9: both come to 9 behind as many as the farther one needs
        for (int corner = 0; corner < 9; corner++) {
            for (int whistle = 0; whistle < 4; whistle++) {
                down += "way " + whistle + " " + corner + " " + (corner + 1) + ";";
            }
        }
        // one whistle that leads elsewhere is enough for the first to get away: 0 and 1 stay where they are by it
        for (int escape = 0; escape < 4; escape++) {
            StringBuilder town = new StringBuilder(TEN);
            for (int whistle = 0; whistle < 4; whistle++) {
                if (whistle != escape) {
                    town.append("way " + whistle + " 0 2;way " + whistle + " 1 3;");
                }
                town.append("way " + whistle + " 2 3;way " + whistle + " 4 2;way " + whistle + " 5 3;");
            }
            FogWatch x1 = Probe.in(town.toString());
            due("by one whistle he gets away", 0, () -> x1.duel(0, 1));
            due("by none", 2, () -> x1.duel(4, 5));
            due("and wins at once", 1, () -> x1.duel(2, 3));
        }
        FogWatch line = Probe.in(TEN + down);
        for (int far = 0; far < 9; far++) {
            int from = far;
            int whistles = 9 - far;
            due("from " + far, whistles % 2 == 1 ? 1 : 2, () -> line.duel(from, 9));
            due("from " + far + ", turned round", whistles % 2 == 1 ? 1 : 2, () -> line.duel(9, from));
        }
    }

    private void reaches() {
        FogWatch x = Probe.in(TEN + "way 3 0 1;way 2 1 2;way 1 2 3;way 0 3 4;way 3 4 5;way 2 5 6;way 1 6 7;way 0 7 8;way 3 8 9;");
        due("down to the last", 1023, () -> x.reach(0));
        due("itself alone", 512, () -> x.reach(9));
        due("no such corner 10", MISSING, () -> x.reach(10));
        due("no such corner -1", MISSING, () -> x.reach(-1));
        Probe.work(x, "fog 5;");
        due("as far as fog, and into it", 63, () -> x.reach(0));
        due("in fog", 32, () -> x.reach(5));
        due("behind fog", 960, () -> x.reach(6));
        FogWatch ring = Probe.in(TEN_RING);
        due("round", 1023, () -> ring.reach(9));
    }

    private void froms() {
        FogWatch x = Probe.in(RING);
        due("by a way and by staying", 9, () -> x.from(0, 1));
        due("by a way alone", 8, () -> x.from(0, 0));
        due("by staying alone", 4, () -> x.from(2, 3));
        due("from none", 0, () -> x.from(3, 1));
        due("whistle -1", ILLEGAL, () -> x.from(0, -1));
        due("whistle 4", ILLEGAL, () -> x.from(0, 4));
        due("no such corner, whatever whistle", MISSING, () -> x.from(4, 4));
        due("no such corner -1", MISSING, () -> x.from(-1, 0));
        Probe.work(x, "fog 3;");
        due("in fog he stays", 12, () -> x.from(3, 0));
        due("in fog he does not come", 0, () -> x.from(0, 0));
        FogWatch ten = Probe.in(TEN + "way 2 0 9;way 2 8 9;");
        due("to the last", 769, () -> ten.from(9, 2));
        due("by another whistle nobody comes to the last", 512, () -> ten.from(9, 1));
        FogWatch poor = Probe.in(RING + "breath 0;");
        due("breath is not asked for", 8, () -> poor.from(0, 0));
    }

    private void stills() {
        due("no corners", 0, () -> new FogWatch().still());
        due("all ten", 1023, () -> Probe.in(TEN).still());
        due("none", 0, () -> Probe.in(TEN_RING).still());
        due("one way is enough to go", 12, () -> Probe.in("corner 0;corner 0;corner 0;corner 0;way 3 0 1;way 0 1 0;").still());
        due("in fog", 15, () -> in(RING, ALL_FOG).still());
        due("one in fog", 2, () -> in(RING, "fog 1;").still());
    }

    private void winds() {
        due("all", 4, () -> new FogWatch().wind());
        FogWatch x = Probe.in(RING + "breath 2;");
        Probe.law(x, "whistle");
        due("just enough for three", 3, x::wind);
        Probe.law(x, "whistle+3");
        due("for none", 0, x::wind);
        Probe.law(x, "whistle+2");
        due("for the first alone", 1, x::wind);
        Probe.law(x, "3-whistle");
        due("for the last three", 3, x::wind);
        FogWatch none = Probe.in("breath 0;");
        due("breath 0", 0, none::wind);
        Probe.law(none, "0");
        due("breath 0, for nothing", 4, none::wind);
        FogWatch most = Probe.in("breath 60;");
        Probe.law(most, "999");
        due("60 at most", 4, most::wind);
        FogWatch each = Probe.in("breath 1;");
        due("each by itself", 4, each::wind);
    }

    // ---- promises 36 and 37

    private void watchBounds() {
        FogWatch x = Probe.in(RING);
        due("q 0, one night", 2, () -> x.watch(1, 0, 1, 2));
        due("q 16, one night", 2, () -> x.watch(1, 16, 1, 2));
        due("nights 0", ILLEGAL, () -> x.watch(1, 0, 0, 0));
        due("nights 49", ILLEGAL, () -> x.watch(1, 0, 49, 0));
        due("nights -1", ILLEGAL, () -> x.watch(1, 0, -1, 0));
        due("q -1", ILLEGAL, () -> x.watch(1, -1, 1, 0));
        due("q 17", ILLEGAL, () -> x.watch(1, 17, 1, 0));
        due("what -1", ILLEGAL, () -> x.watch(1, 0, 1, -1));
        due("what 4", ILLEGAL, () -> x.watch(1, 0, 1, 4));
        due("also in no town", ILLEGAL, () -> new FogWatch().watch(1, 0, 0, 0));
        Probe.law(x, "0");
        due("48 nights", 96, () -> x.watch(LOWEST, 0, 48, 2));
        due("48 nights", 96, () -> x.watch(HIGHEST, 16, 48, 2));
        due("q 0: no fog", 0, () -> x.watch(-1, 0, 48, 3));
        due("breath as it was", 60, () -> x.watch(-1, 16, 48, 1));
    }

    private void watchDraws() {
        // seed 1 draws 16838, 5758, 10113, 17515, 31051, 5627
        FogWatch x = Probe.in(RING);
        Probe.law(x, "whistle*10");
        // q 0: blow 16838 % 4 = 2, 5758 % 16, blow 10113 % 4 = 1, 17515 % 16
        due("q 0: breath", 30, () -> x.watch(1, 0, 1, 1));
        // q 16: blow 2, fog 10113 % 4 = 1, blow 17515 % 4 = 3, 31051, fog 5627 % 4 = 3; then night
        due("q 16: breath", 10, () -> x.watch(1, 16, 1, 1));
        due("q 16: fog", 5, () -> x.watch(1, 16, 1, 3));
        due("5758 % 16 is 14, not below 14", 1, () -> x.watch(1, 14, 1, 3));
        due("but below 15", 5, () -> x.watch(1, 15, 1, 3));
        // bits 16 to 30 are drawn: what stands at bit 31 never comes down to them
        due("bit 31 is not drawn, breath", x.watch(5, 9, 4, 1), () -> x.watch(5 ^ LOWEST, 9, 4, 1));
        due("bit 31 is not drawn, fog", x.watch(5, 9, 4, 3), () -> x.watch(5 ^ LOWEST, 9, 4, 3));
        FogWatch one = Probe.in("corner 0;man 0;");
        // one corner: each draw by how many corners is 0; fog on, fog off
        due("twice fog of one corner", 0, () -> one.watch(7, 16, 1, 3));
        due("and so each night", 0, () -> one.watch(7, 16, 48, 3));
        due("he stays", 1, () -> one.watch(7, 16, 48, 0));
    }

    private void watchEdges() {
        FogWatch none = new FogWatch();
        due("no corners: nobody", 0, () -> none.watch(3, 16, 48, 0));
        due("no corners: breath", 60, () -> none.watch(3, 16, 48, 1));
        due("no corners: nothing blown", 0, () -> none.watch(3, 16, 48, 2));
        due("no corners: no fog", 0, () -> none.watch(3, 16, 48, 3));
        FogWatch nobody = Probe.in("corner 0;corner 0;");
        due("no men: nobody", 0, () -> nobody.watch(3, 0, 2, 0));
        due("no men: blown", 4, () -> nobody.watch(3, 0, 2, 2));
        FogWatch poor = Probe.in(RING + "breath 0;");
        due("no breath: not blown", 0, () -> poor.watch(3, 0, 48, 2));
        due("no breath: nobody goes", 5, () -> poor.watch(3, 0, 48, 0));
        FogWatch late = Probe.in(RING);
        Probe.work(late, "again 40[night;night;night;night;];");
        Probe.work(late, "again 40[night;night;night;night;];");
        Probe.work(late, "again 40[night;night;];fog 0;");
        due("night 400", 400, () -> late.told(3));
        due("the fog goes on beyond 400", 2, () -> late.watch(3, 0, 1, 3));
        Probe.law(late, "(night-400)*60");
        due("beyond 400 a law sees it: two for nothing, one of 60", 3, () -> late.watch(3, 0, 48, 2));
        due("the night is as it was", 400, () -> late.told(3));
        FogWatch fog = in(RING, ALL_FOG);
        due("in fog all stay", 5, () -> fog.watch(3, 0, 48, 0));
        FogWatch blown = in(RING, "blow 0;blow 0;");
        Probe.law(blown, "0");
        due("only what is blown in it", 2, () -> blown.watch(3, 0, 1, 2));
    }

    private void spanBounds() {
        FogWatch x = Probe.in(RING);
        due("many 0", ILLEGAL, () -> x.span(1, 0, 0, 1, 0, 0));
        due("many 11", ILLEGAL, () -> x.span(1, 11, 0, 1, 0, 0));
        due("many -1", ILLEGAL, () -> x.span(1, -1, 0, 1, 0, 0));
        due("q -1", ILLEGAL, () -> x.span(1, 1, -1, 1, 0, 0));
        due("q 17", ILLEGAL, () -> x.span(1, 1, 17, 1, 0, 0));
        due("nights 0", ILLEGAL, () -> x.span(1, 1, 0, 0, 0, 0));
        due("nights 49", ILLEGAL, () -> x.span(1, 1, 0, 49, 0, 0));
        due("what -1", ILLEGAL, () -> x.span(1, 1, 0, 1, -1, 0));
        due("what 3", ILLEGAL, () -> x.span(1, 1, 0, 1, 3, 0));
        for (int what = 0; what <= 2; what++) {
            int w = what;
            due("no such corner 4", ILLEGAL, () -> x.span(1, 1, 0, 1, w, 4));
            due("no such corner -1", ILLEGAL, () -> x.span(1, 1, 0, 1, w, -1));
            due("no such corner lowest", ILLEGAL, () -> x.span(1, 1, 0, 1, w, LOWEST));
            due("no corners", ILLEGAL, () -> new FogWatch().span(1, 1, 0, 1, w, 0));
        }
        due("none of these is a missing one", 0, () -> x.status(0));
        due("the last corner", 2, () -> x.span(1, 1, 0, 1, 0, 3));
    }

    private void spanSeeds() {
        FogWatch x = Probe.in(RING + "breath 7;");
        Probe.law(x, "1+whistle");
        for (int first : new int[] {0, 1, -10, LOWEST, HIGHEST - 4, HIGHEST}) {
            for (int many = 1; many <= 10; many += 9) {
                int fewest = HIGHEST;
                int most = 0;
                int there = 0;
                for (int i = 0; i < many; i++) {
                    int blown = x.watch(first + i, 6, 9, 2);
                    fewest = Math.min(fewest, blown);
                    most = Math.max(most, blown);
                    there += x.watch(first + i, 6, 9, 0) & 1;
                }
                int seeds = many;
                due("fewest of " + many + " from " + first, fewest, () -> x.span(first, seeds, 6, 9, 0, 0));
                due("most of " + many + " from " + first, most, () -> x.span(first, seeds, 6, 9, 1, 0));
                due("there by " + many + " from " + first, there, () -> x.span(first, seeds, 6, 9, 2, 0));
            }
        }
        // six whistles of 1 and more by then; ahead of it two were blown, which are not in it
        FogWatch blown = Probe.in("corner 0;corner 0;way 0 0 1;way 1 0 1;way 2 0 1;way 3 0 1;man 0;breath 200;");
        Probe.law(blown, "0");
        Probe.work(blown, "fog 1;blow 0;blow 0;fog 1;walk 0 0;");
        due("the fewest in it", 6, () -> blown.span(1, 10, 0, 3, 0, 0));
        due("the most in it", 6, () -> blown.span(1, 10, 0, 3, 1, 0));
        due("all went to 1", 10, () -> blown.span(1, 10, 0, 3, 2, 1));
        due("and none is at 0", 0, () -> blown.span(1, 10, 0, 3, 2, 0));
        FogWatch nobody = Probe.in("corner 0;breath 0;");
        due("none is there", 0, () -> nobody.span(1, 10, 0, 1, 2, 0));
        due("none is blown", 0, () -> nobody.span(1, 10, 0, 48, 1, 0));
        FogWatch here = Probe.in("corner 0;man 0;");
        Probe.law(here, "0");
        due("by all ten", 10, () -> here.span(1, 10, 16, 48, 2, 0));
        due("the fewest", 96, () -> here.span(1, 10, 16, 48, 0, 0));
        due("the most", 96, () -> here.span(1, 10, 16, 48, 1, 0));
    }
}
