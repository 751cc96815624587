import java.util.ArrayList;
import java.util.List;

/** The edges of each call (promises 1 to 41): what is thrown and ahead of what, what stays, what is empty then. */
public final class CallEdgeTest {
    private static final int NONE = FogWatch.NONE;
    private static final long MISSING = Probe.MISSING;
    private static final long ILLEGAL = Probe.ILLEGAL;
    private static final int LOWEST = Integer.MIN_VALUE;
    private static final int HIGHEST = Integer.MAX_VALUE;

    // a ring of four by whistle 0; whistle 1 brings 3 to 0
    private static final String RING = "corner 1;corner 2;corner 1;corner 3;way 0 0 1;way 0 1 2;way 0 2 3;"
        + "way 0 3 0;way 1 3 0;man 0;man 2;man 2;";

    private final Probe probe = new Probe();

    public static void main(String[] args) {
        CallEdgeTest test = new CallEdgeTest();
        test.newObject();
        test.feedTo600();
        test.feedHighestFirst();
        test.textLengths();
        test.textsEmptyTheTape();
        test.townAnew();
        test.townWithFault();
        test.lawSongBookAnew();
        test.sixteenWorks();
        test.worksFullAndFaults();
        test.faultOfLatestText();
        test.undoes();
        test.toldAtItsEdges();
        test.refusedOfLatestWork();
        test.corners();
        test.men();
        test.wouldAtItsEdges();
        test.threeImages();
        test.restores();
        test.imagesKeepWorks();
        test.statusCounts();
        test.counts();
        test.illegalOnes();
        test.missingOnes();
        test.missingAheadOfIllegal();
        test.askedChangesNothing();
        test.probe.close("CallEdgeTest");
    }

    private void due(String what, long want, Probe.Call call) {
        probe.due(what, want, call);
    }

    /** A town in which something stands at every place: a law, tunes, works, an image, a fault, bytes on the tape. */
    private static FogWatch busy() {
        FogWatch x = Probe.in(RING);
        Probe.law(x, "1 + same * whistle + fog");
        Probe.song(x, "0;1;0;");
        Probe.book(x, "2;2;");
        Probe.work(x, "blow 0;fog 3;");
        x.image();
        Probe.work(x, "night;walk 0 0;walk 0 0;blow 2;");
        Probe.song(x, "0;x");
        Probe.put(x, "corner 9;corner 8;xx");
        return x;
    }

    // ---- promises 1 to 8

    private void newObject() {
        FogWatch x = new FogWatch();
        int[] told = {0, 0, 60, 0, 0, 0, NONE, 0, 0, 0, 0, 0};
        for (int what = 0; what < told.length; what++) {
            int w = what;
            due("told " + what + " of a new object", told[what], () -> x.told(w));
        }
        for (int what = 0; what < 3; what++) {
            int w = what;
            due("count " + what + " of a new object", 0, () -> x.count(w));
        }
        due("status 0 of a new object", 0, () -> x.status(0));
        due("status 1 of a new object", 0, () -> x.status(1));
        due("fault of a new object", NONE, x::fault);
        due("nothing to undo", -1, x::undo);
        due("nothing to restore", -1, x::restore);
        probe.dueSame("as a town without clauses", Probe.wholeOf(Probe.in("")), Probe.wholeOf(x));
    }

    private void feedTo600() {
        FogWatch x = new FogWatch();
        String town = Probe.times("breath 10;", 59) + "breath 99;";
        for (int i = 1; i <= 30; i++) {
            int from = 20 * (i - 1);
            due("feed " + i, 20 * i, () -> {
                Probe.put(x, town.substring(from, from + 20));
                return x.count(1);
            });
        }
        due("a 31st", NONE, () -> x.feed(-1, -1, -1, -1, -1));
        due("again", NONE, () -> x.feed(0, 0, 0, 0, 0));
        due("bytes", 600, () -> x.count(1));
        due("it did nothing", 0, () -> x.town(600));
        due("the last byte was there", 99, () -> x.told(2));
        due("empty", 0, () -> x.count(1));
        due("from the front anew", 20, () -> x.feed(0x62726561, 0x74682037, 0x3b000000, 0, 0));
        due("what is fed anew counts", 0, () -> x.town(9));
        due("what is fed anew counts", 7, () -> x.told(2));
        due("no refusal was counted", 0, () -> x.status(1));
    }

    private void feedHighestFirst() {
        FogWatch x = new FogWatch();
        // "brea" "th 1" "23;c" "orne" "r 4;"
        due("feed", 20, () -> x.feed(0x62726561, 0x74682031, 0x32333b63, 0x6f726e65, 0x7220343b));
        due("town", 1, () -> x.town(20));
        due("breath", 123, () -> x.told(2));
        due("bell", 4, () -> x.corner(0, 0));
        FogWatch y = new FogWatch();
        due("feed", 20, () -> y.feed(0x200000ff, -1, -1, -1, -1));
        due("blank and byte 0", -9, () -> y.town(2));
        due("place", 1, y::fault);
        FogWatch z = new FogWatch();
        due("feed", 20, () -> z.feed(0xa0202020, 0x20202020, 0x20202020, 0x20202020, 0x20202020));
        due("byte 160 is no blank", -9, () -> z.town(20));
        due("place", 0, z::fault);
    }

    /** n is 0 to the tape's bytes, and to 600, 150, 150, 60 or 60. */
    private void textLengths() {
        int[] most = {600, 150, 150, 60, 60};
        for (Probe.Text kind : Probe.Text.values()) {
            int top = most[kind.ordinal()];
            Probe.Maker full = () -> filled(busy(), 600);
            for (int n : new int[] {-1, LOWEST, HIGHEST, top + 1, 601}) {
                probe.dueKept(kind + " of " + n, ILLEGAL, full, x -> Probe.read(x, kind, n));
            }
            Probe.Maker twenty = () -> filled(busy(), 20);
            for (int n : new int[] {-1, 21, 40}) {
                probe.dueKept(kind + " of " + n + ", the tape having 20", ILLEGAL, twenty, x -> Probe.read(x, kind, n));
            }
            Probe.Maker none = () -> filled(busy(), 0);
            probe.dueKept(kind + " of 1, the tape being empty", ILLEGAL, none, x -> Probe.read(x, kind, 1));
            for (int n : new int[] {0, 1, 19, 20}) {
                FogWatch x = twenty.make();
                due(kind + " of " + n + " is read", kind == Probe.Text.LAW ? -9 : 0, () -> Probe.read(x, kind, n));
                due("no refusal", 0, () -> x.status(1));
            }
            FogWatch y = full.make();
            due(kind + " of " + top + " is read", kind == Probe.Text.LAW ? -9 : 0, () -> Probe.read(y, kind, top));
            FogWatch empty = none.make();
            due(kind + " of 0 is read", kind == Probe.Text.LAW ? -9 : 0, () -> Probe.read(empty, kind, 0));
        }
    }

    /** The tape holds so many blanks and nothing else. */
    private static FogWatch filled(FogWatch x, int bytes) {
        x.law(0);
        for (int i = 0; i < bytes; i += 20) {
            x.feed(0x20202020, 0x20202020, 0x20202020, 0x20202020, 0x20202020);
        }
        return x;
    }

    private void textsEmptyTheTape() {
        for (Probe.Text kind : Probe.Text.values()) {
            for (int n : new int[] {0, 8, 20}) {
                FogWatch x = busy();
                long answer = Probe.answerOf(() -> Probe.read(x, kind, n));
                due(kind + " of " + n + " answered", 1, () -> answer == MISSING || answer == ILLEGAL ? 0 : 1);
                due("the tape is empty behind " + kind + " of " + n, 0, () -> x.count(1));
            }
        }
    }

    private void townAnew() {
        for (int n : new int[] {0, 9, 18}) {
            FogWatch x = busy();
            due("town of " + n, n / 9, () -> x.town(n));
            due("no fault", NONE, x::fault);
            String text = "corner 9;corner 8;".substring(0, n);
            probe.dueSame("as in a new object", Probe.wholeOf(Probe.in(text)), Probe.wholeOf(x));
        }
        FogWatch x = busy();
        x.town(9);
        due("no images", -1, x::restore);
        due("nothing to undo", -1, x::undo);
        due("no refused ones", 0, () -> x.told(10));
        due("no law", 1, () -> x.cost(2));
        due("no song", 0, () -> x.told(8));
        due("no book", 0, () -> x.told(9));
        // corners of the old town lead nowhere in the new one
        due("its ways are its own", 2, () -> Probe.town(x, "corner 0;corner 0;"));
        for (int whistle = 0; whistle < 4; whistle++) {
            int w = whistle;
            due("to itself", 1, () -> x.way(1, w));
        }
        FogWatch again = filled(busy(), 0);
        due("the same town", 4, () -> Probe.town(again, RING));
        probe.dueSame("nobody has heard or stayed", Probe.wholeOf(Probe.in(RING)), Probe.wholeOf(again));
        FogWatch third = Probe.in("corner 0;man 0;man 0;breath 7;");
        due("another one", 1, () -> Probe.town(third, "corner 1;man 0;breath 8;"));
        due("a third one", 1, () -> Probe.town(third, "corner 2;"));
        probe.dueSame("nothing of the first two", Probe.wholeOf(Probe.in("corner 2;")), Probe.wholeOf(third));
        FogWatch spoilt = Probe.in(RING);
        due("one with a fault", -9, () -> Probe.town(spoilt, "corner 9;man 0;man 0;breath 7;way 0 0 0;x"));
        due("one without", 1, () -> Probe.town(spoilt, "corner 2;"));
        probe.dueSame("nothing of that with a fault", Probe.wholeOf(Probe.in("corner 2;")), Probe.wholeOf(spoilt));
        FogWatch full = Probe.in(RING);
        for (int i = 0; i < 16; i++) {
            Probe.work(full, "");
        }
        due("full", -20, () -> Probe.work(full, ""));
        Probe.town(full, "corner 0;");
        due("works anew", 1, () -> Probe.work(full, "night;"));
    }

    private void townWithFault() {
        for (String text : new String[] {"corner 1;corner 10;", "corner 1;corner", Probe.times("corner 1;", 11)}) {
            FogWatch x = filled(busy(), 0);
            long answer = Probe.town(x, text);
            due("a fault", 1, () -> answer < 0 ? 1 : 0);
            probe.dueSame("all stays", Probe.wholeOf(filled(busy(), 0)), Probe.wholeOf(x));
        }
    }

    private void lawSongBookAnew() {
        FogWatch x = busy();
        String scene = "" + x.told(2) + x.told(3) + x.told(4) + x.told(5) + x.told(6) + x.told(7) + x.told(10);
        Probe.tell(filled(x, 0), Probe.Text.LAW, "4");
        due("the law counts", 4, () -> x.cost(3));
        Probe.song(x, "1;1;");
        due("the song counts", 2, () -> x.told(8));
        due("the book stays", 2, () -> x.told(9));
        Probe.book(x, "");
        due("the book is empty", 0, () -> x.told(9));
        due("the song stays", 2, () -> x.told(8));
        Probe.song(x, "");
        due("the song is empty", 0, () -> x.told(8));
        due("the law stays", 4, () -> x.cost(3));
        probe.dueSame("who is where stays", scene,
            "" + x.told(2) + x.told(3) + x.told(4) + x.told(5) + x.told(6) + x.told(7) + x.told(10));
        due("images stay", 1, () -> x.count(0));
        due("works stay", 2, () -> x.count(2));
        due("a law with a fault", -9, () -> Probe.law(x, "5+"));
        due("the law stays", 4, () -> x.cost(3));
        Probe.song(x, "3;2;1;");
        due("a song with a fault", -8, () -> Probe.song(x, "0;0;0;0;4;"));
        due("the song stays", 3, () -> x.told(8));
        due("also what it blows", 7, () -> x.goes(15));
        Probe.book(x, "7;");
        due("a book with a fault", -9, () -> Probe.book(x, "1;2;3"));
        due("the book stays", 1, () -> x.told(9));
    }

    private static FogWatch withSixteen() {
        FogWatch x = Probe.in("corner 1;corner 2;way 0 0 1;way 0 1 0;man 0;");
        Probe.law(x, "1");
        for (int i = 0; i < 15; i++) {
            Probe.work(x, "blow 0;");
        }
        Probe.work(x, "rest 60;walk 0 1;");
        return x;
    }

    private void sixteenWorks() {
        FogWatch x = withSixteen();
        due("sixteen", 16, () -> x.count(2));
        due("blown", 15, () -> x.told(5));
        due("full", -20, () -> Probe.work(x, "blow 0;"));
        due("full, of no steps", -20, () -> x.work(0));
        due("nothing was done", 15, () -> x.told(5));
        due("sixteen still", 16, () -> x.count(2));
        due("undone", 15, x::undo);
        due("there is room", 1, () -> Probe.work(x, "night;"));
        due("full", -20, () -> Probe.work(x, "night;"));
        due("one night", 1, () -> x.told(3));
        for (int left = 15; left >= 0; left--) {
            due("undo", left, x::undo);
        }
        due("none left", -1, x::undo);
        due("as at first", 0, () -> x.told(5));
    }

    private void worksFullAndFaults() {
        FogWatch x = withSixteen();
        due("a fault ahead", -9, () -> Probe.law(x, "1+"));
        due("its place", 2, x::fault);
        due("-20 ahead of a fault", -20, () -> Probe.work(x, "bad"));
        due("there is no fault", NONE, x::fault);
        due("the tape is empty", 0, () -> x.count(1));
        due("refused ones are those of the latest work", 1, () -> x.told(10));
        for (int n : new int[] {-1, 21, 151}) {
            probe.dueKept("n " + n + " ahead of -20", ILLEGAL, () -> {
                FogWatch full = withSixteen();
                Probe.put(full, "night;");
                return full;
            }, y -> y.work(n));
        }
        probe.dueKept("nothing is done", -20, CallEdgeTest::withSixteen, y -> Probe.work(y, "night;walk 0 0;"));
        FogWatch faulty = Probe.in(RING);
        for (int i = 0; i < 20; i++) {
            due("a work with a fault", -8, () -> Probe.work(faulty, "night;blow 4;"));
        }
        due("is no work", 0, () -> faulty.count(2));
        due("none of it is done", 0, () -> faulty.told(3));
    }

    private void faultOfLatestText() {
        FogWatch x = Probe.in(RING);
        due("none", NONE, x::fault);
        due("a fault", -9, () -> Probe.song(x, "0;x;"));
        due("place", 2, x::fault);
        due("feed", 20, () -> x.feed(0, 0, 0, 0, 0));
        due("stays behind feed", 2, x::fault);
        due("a wrong n", ILLEGAL, () -> x.book(61));
        due("stays behind a refused text", 2, x::fault);
        x.undo();
        x.image();
        x.restore();
        due("stays behind others", 2, x::fault);
        due("a sound text", 0, () -> x.book(0));
        due("none", NONE, x::fault);
        due("a fault", -9, () -> Probe.book(x, "x;"));
        due("at place 0", 0, x::fault);
        due("another one", -8, () -> Probe.work(x, "night;blow 9;"));
        due("its place", 11, x::fault);
        due("a sound work", 1, () -> Probe.work(x, "night;"));
        due("none", NONE, x::fault);
    }

    // ---- promise 9

    private void undoes() {
        FogWatch x = Probe.in(RING);
        due("none", -1, x::undo);
        due("of no steps", 0, () -> Probe.work(x, ""));
        due("of refused steps", 0, () -> Probe.work(x, "walk 0 0;"));
        due("of agains", 0, () -> Probe.work(x, "again 40[];"));
        due("three", 3, () -> x.count(2));
        due("left", 2, x::undo);
        due("left", 1, x::undo);
        due("left", 0, x::undo);
        due("none", -1, x::undo);
        due("none still", -1, x::undo);
        List<String> scenes = new ArrayList<>();
        String[] works = {"blow 0;blow 0;", "fog 0;fog 3;blow 1;", "night;", "walk 1 3;rest 9;", "blow 3;", "night;blow 3;"};
        for (String work : works) {
            scenes.add(Probe.sceneOf(x));
            Probe.work(x, work);
        }
        for (int i = works.length - 1; i >= 0; i--) {
            int left = i;
            due("undo " + works[i], left, x::undo);
            probe.dueSame("as ahead of " + works[i], scenes.get(i), Probe.sceneOf(x));
        }
    }

    // ---- promises 10 to 15

    private void toldAtItsEdges() {
        FogWatch x = busy();
        // blow 0 (cost 1), fog 3; night brings the fog to 0; man 0 walks from 1 into it, and stays; blow 2 costs 1 and 1
        int[] told = {4, 3, 57, 1, 1, 2, 2, 9, 3, 2, 1, 2};
        for (int what = 0; what < told.length; what++) {
            int w = what;
            due("told " + what, told[what], () -> x.told(w));
        }
        FogWatch full = Probe.in(Probe.times("corner 0;", 10) + "man 0;man 9;man 5;man 9;man 1;breath 200;");
        due("ten corners", 10, () -> full.told(0));
        due("five men", 5, () -> full.told(1));
        due("breath", 200, () -> full.told(2));
        due("where any is", 547, () -> full.told(7));
        due("most at 9", 2, () -> full.told(11));
        Probe.song(full, Probe.times("0;", 20));
        Probe.book(full, Probe.times("0;", 20));
        due("whistles", 20, () -> full.told(8));
        due("bells", 20, () -> full.told(9));
        String five = Probe.times("corner 0;", 5);
        due("two at 0, two at 1, one at 2", 2, () -> Probe.in(five + "man 1;man 0;man 2;man 0;man 1;").told(11));
        due("four at 3, one at 4", 4, () -> Probe.in(five + "man 3;man 4;man 3;man 3;man 3;").told(11));
        due("one each", 1, () -> Probe.in(five + "man 0;man 1;man 2;man 3;man 4;").told(11));
        FogWatch nobody = Probe.in("corner 0;");
        due("nobody is anywhere", 0, () -> nobody.told(7));
        due("none is most", 0, () -> nobody.told(11));
    }

    private void refusedOfLatestWork() {
        FogWatch x = Probe.in(RING);
        due("ahead of any", 0, () -> x.told(10));
        Probe.work(x, "walk 0 0;walk 1 2;");
        due("two", 2, () -> x.told(10));
        due("a work with a fault", -9, () -> Probe.work(x, "walk 0 0;x"));
        due("two still", 2, () -> x.told(10));
        due("other texts", 1, () -> Probe.law(x, "1"));
        due("two still", 2, () -> x.told(10));
        Probe.work(x, "");
        due("by the latest", 0, () -> x.told(10));
        Probe.work(x, "walk 0 0;");
        due("one", 1, () -> x.told(10));
        x.image();
        due("an image changes nothing", 1, () -> x.told(10));
        x.undo();
        due("behind undo", 0, () -> x.told(10));
        Probe.work(x, "walk 0 0;walk 0 0;walk 0 0;");
        due("three", 3, () -> x.told(10));
        x.restore();
        due("behind restore", 0, () -> x.told(10));
        x.undo();
        due("behind undo of a work that had none", 0, () -> x.told(10));
        Probe.work(x, "walk 0 0;");
        due("one", 1, () -> x.told(10));
        Probe.town(x, RING);
        due("in a new town", 0, () -> x.told(10));
        for (int i = 0; i < 16; i++) {
            Probe.work(x, "walk 0 0;");
        }
        due("full", -20, () -> Probe.work(x, "walk 0 0;walk 0 0;"));
        due("of the latest that was done", 1, () -> x.told(10));
    }

    private void corners() {
        FogWatch x = Probe.in("corner 9;corner 0;man 1;man 0;man 1;man 1;man 1;");
        due("bell 9", 9, () -> x.corner(0, 0));
        due("bell 0", 0, () -> x.corner(1, 0));
        due("men there", 2, () -> x.corner(0, 2));
        due("men there", 29, () -> x.corner(1, 2));
        due("not in fog", 0, () -> x.corner(1, 1));
        Probe.work(x, "fog 1;walk 1 1;");
        due("in fog", 1, () -> x.corner(1, 1));
        due("all five", 31, () -> x.corner(1, 2));
        due("none", 0, () -> x.corner(0, 2));
        FogWatch ten = Probe.in(Probe.times("corner 7;", 10) + "way 3 9 8;");
        due("the last one", 7, () -> ten.corner(9, 0));
        due("its way", 8, () -> ten.way(9, 3));
        Probe.work(ten, "fog 9;");
        due("its way as told, in fog, too", 8, () -> ten.way(9, 3));
        due("fog of the last one", 1, () -> ten.corner(9, 1));
        due("fog of another one", 0, () -> ten.corner(8, 1));
    }

    private void men() {
        FogWatch x = Probe.in("corner 0;corner 5;way 0 0 1;man 0;man 0;man 0;man 0;man 1;");
        due("the last one", 1, () -> x.man(4, 0));
        due("no bell", NONE, () -> x.man(4, 1));
        Probe.work(x, "blow 1;");
        due("bell 0 is one", 0, () -> x.man(0, 1));
        due("heard", 1, () -> x.man(0, 2));
        Probe.work(x, "fog 0;blow 0;blow 0;");
        due("stayed", 2, () -> x.man(0, 3));
        due("heard", 1, () -> x.man(0, 2));
        due("the last bell stays", 0, () -> x.man(0, 1));
        due("the other one heard", 3, () -> x.man(4, 2));
        due("and did not stay in fog", 0, () -> x.man(4, 3));
        Probe.work(x, "fog 0;walk 0 1;");
        due("walked", 1, () -> x.man(0, 0));
        due("and heard nothing", 1, () -> x.man(0, 2));
    }

    private void wouldAtItsEdges() {
        String[] facts = {"whistle", "blown", "same", "fog", "men", "night", "breath"};
        int[] most = {3, 999, 999, 10, 5, 400, 200};
        for (int i = 0; i < facts.length; i++) {
            int at = i;
            FogWatch x = Probe.in(RING);
            Probe.law(x, facts[i] + "%61");
            for (int value : new int[] {0, 1, most[i]}) {
                due(facts[i] + " " + value, value % 61 == 60 ? 60 : value % 61, () -> would(x, at, value));
            }
            for (int value : new int[] {-1, most[i] + 1, LOWEST, HIGHEST}) {
                probe.dueKept(facts[i] + " " + value, ILLEGAL, CallEdgeTest::busy, y -> would(y, at, value));
            }
        }
        FogWatch x = busy();
        due("not of now", 1 + 3 * 2 + 4, () -> x.would(2, 0, 3, 4, 0, 0, 0));
        FogWatch dear = new FogWatch();
        due("60 at most", 60, () -> dear.would(0, 0, 999, 0, 0, 0, 0));
        due("without a law", 1, () -> dear.would(3, 999, 0, 10, 5, 400, 200));
        due("59 and 1", 60, () -> dear.would(0, 0, 59, 0, 0, 0, 0));
        due("58 and 1", 59, () -> dear.would(0, 0, 58, 0, 0, 0, 0));
    }

    private static int would(FogWatch x, int at, int value) {
        int[] v = new int[7];
        v[at] = value;
        return x.would(v[0], v[1], v[2], v[3], v[4], v[5], v[6]);
    }

    // ---- promises 38 to 41

    private void threeImages() {
        FogWatch x = Probe.in(RING);
        due("one", 1, x::image);
        Probe.work(x, "night;");
        due("two", 2, x::image);
        Probe.work(x, "night;");
        due("three", 3, x::image);
        Probe.work(x, "night;");
        due("no fourth", -1, x::image);
        due("three", 3, () -> x.count(0));
        due("the latest first", 2, x::restore);
        due("night 2", 2, () -> x.told(3));
        due("room for one", 3, x::image);
        due("and no more", -1, x::image);
        due("it is gone then", 2, x::restore);
        due("the second", 1, x::restore);
        due("night 1", 1, () -> x.told(3));
        due("the first", 0, x::restore);
        due("night 0", 0, () -> x.told(3));
        due("none", -1, x::restore);
        due("none", 0, () -> x.count(0));
        probe.dueKept("a fourth changes nothing", -1, () -> {
            FogWatch y = busy();
            y.image();
            y.image();
            return y;
        }, FogWatch::image);
        probe.dueKept("no image: nothing changes", -1, () -> {
            FogWatch y = Probe.in(RING);
            Probe.work(y, "night;walk 0 0;");
            return y;
        }, FogWatch::restore);
    }

    private void restores() {
        FogWatch x = Probe.in(RING);
        Probe.work(x, "blow 0;blow 0;fog 1;walk 2 1;rest 3;night;blow 1;");
        String scene = Probe.sceneOf(x);
        x.image();
        Probe.work(x, "night;night;blow 2;fog 0;walk 0 3;rest 60;");
        Probe.law(x, "7");
        Probe.song(x, "1;2;");
        Probe.book(x, "5;");
        Probe.put(x, "night;");
        due("restored", 0, x::restore);
        due("the law stays", 7, () -> x.cost(1));
        Probe.put(x, "night;");
        due("the tape stays", 40, () -> x.count(1));
        due("the song stays", 2, () -> x.told(8));
        due("the book stays", 1, () -> x.told(9));
        x.law(0);
        Probe.law(x, "1+same");
        probe.dueSame("all is as in the image", scene, Probe.sceneOf(x));
    }

    private void imagesKeepWorks() {
        FogWatch x = Probe.in(RING);
        x.image();
        for (int i = 0; i < 16; i++) {
            Probe.work(x, "night;");
        }
        x.image();
        for (int i = 0; i < 16; i++) {
            x.undo();
        }
        for (int i = 0; i < 5; i++) {
            Probe.work(x, "rest 1;");
        }
        due("the full one", 1, x::restore);
        due("sixteen works", 16, () -> x.count(2));
        due("full", -20, () -> Probe.work(x, "night;"));
        for (int left = 15; left >= 0; left--) {
            int night = left;
            due("undo", left, x::undo);
            due("night", night, () -> x.told(3));
        }
        Probe.work(x, "rest 1;");
        due("the one without works", 0, x::restore);
        due("no works", 0, () -> x.count(2));
        due("nothing to undo", -1, x::undo);
        // undone ahead of an image: it keeps those that are left
        Probe.work(x, "rest 1;");
        Probe.work(x, "rest 2;");
        x.undo();
        x.image();
        x.undo();
        due("restored", 0, x::restore);
        due("one work", 1, () -> x.count(2));
        due("breath", 61, () -> x.told(2));
        due("undone", 0, x::undo);
        due("breath", 60, () -> x.told(2));
    }

    private void statusCounts() {
        FogWatch x = Probe.in(RING);
        x.image();
        for (int i = 1; i <= 3; i++) {
            int many = i;
            due("missing", MISSING, () -> x.reach(4));
            due("missing so often", many, () -> x.status(0));
        }
        for (int i = 1; i <= 4; i++) {
            int many = i;
            due("illegal", ILLEGAL, () -> x.cost(9));
            due("illegal so often", many, () -> x.status(1));
        }
        due("missing as before", 3, () -> x.status(0));
        Probe.work(x, "night;");
        x.undo();
        x.restore();
        Probe.town(x, "corner 0;");
        Probe.town(x, "x");
        due("no town, image or undo keeps it", 3, () -> x.status(0));
        due("no town, image or undo keeps it", 4, () -> x.status(1));
        for (int what : new int[] {-1, 2, LOWEST, HIGHEST}) {
            due("status " + what, NONE, () -> x.status(what));
        }
        due("asking is no refusal", 4, () -> x.status(1));
        due("a fault is no refusal", -9, () -> Probe.law(x, ""));
        due("nor is one", -1, x::undo);
        due("nor is one", -1, x::restore);
        due("so often as before", 4, () -> x.status(1));
    }

    private void counts() {
        FogWatch x = busy();
        due("images", 1, () -> x.count(0));
        due("bytes", 20, () -> x.count(1));
        due("works", 2, () -> x.count(2));
        for (int what : new int[] {-1, 3, LOWEST, HIGHEST}) {
            due("count " + what, NONE, () -> x.count(what));
        }
        due("no refusal", 0, () -> x.status(1));
    }

    // ---- every call

    private void illegal(String what, Probe.Ask ask) {
        probe.dueKept(what, ILLEGAL, CallEdgeTest::busy, ask);
    }

    private void missing(String what, Probe.Ask ask) {
        probe.dueKept(what, MISSING, CallEdgeTest::busy, ask);
    }

    private void illegalOnes() {
        for (int wrong : new int[] {-1, LOWEST, HIGHEST}) {
            illegal("told", x -> x.told(wrong));
            illegal("corner", x -> x.corner(3, wrong));
            illegal("way", x -> x.way(3, wrong));
            illegal("man", x -> x.man(2, wrong));
            illegal("cost", x -> x.cost(wrong));
            illegal("ahead n", x -> x.ahead(wrong, 0));
            illegal("ahead what", x -> x.ahead(0, wrong));
            illegal("goes", x -> x.goes(wrong));
            illegal("reset corners", x -> x.reset(wrong, 0));
            illegal("reset what", x -> x.reset(0, wrong));
            illegal("row corners", x -> x.row(wrong, 0));
            illegal("home", x -> x.home(wrong, 0));
            illegal("cheap", x -> x.cheap(wrong));
            illegal("rows", x -> x.rows(0, 0, wrong));
            illegal("ring", x -> x.ring(0, wrong));
            illegal("look", x -> x.look(wrong));
            illegal("chance n", x -> x.chance(0, 0, wrong, 0, 0));
            illegal("chance q", x -> x.chance(0, 0, 0, wrong, 0));
            illegal("chance half", x -> x.chance(0, 0, 0, 0, wrong));
            illegal("from", x -> x.from(0, wrong));
            illegal("watch q", x -> x.watch(0, wrong, 1, 0));
            illegal("watch nights", x -> x.watch(0, 0, wrong, 0));
            illegal("watch what", x -> x.watch(0, 0, 1, wrong));
            illegal("span many", x -> x.span(0, wrong, 0, 1, 0, 0));
            illegal("span q", x -> x.span(0, 1, wrong, 1, 0, 0));
            illegal("span nights", x -> x.span(0, 1, 0, wrong, 0, 0));
            illegal("span what", x -> x.span(0, 1, 0, 1, wrong, 0));
            illegal("span corner", x -> x.span(0, 1, 0, 1, 0, wrong));
        }
        illegal("row -1", x -> x.row(0, -1));
        illegal("row lowest", x -> x.row(15, LOWEST));
        illegal("told 12", x -> x.told(12));
        illegal("corner 3", x -> x.corner(0, 3));
        illegal("way 4", x -> x.way(0, 4));
        illegal("man 4", x -> x.man(0, 4));
        illegal("cost 4", x -> x.cost(4));
        illegal("ahead 100", x -> x.ahead(100, 1));
        illegal("ahead what 2", x -> x.ahead(99, 2));
        illegal("goes 16", x -> x.goes(16));
        illegal("reset 16", x -> x.reset(16, 1));
        illegal("reset what 2", x -> x.reset(15, 2));
        illegal("row 16", x -> x.row(16, 0));
        illegal("home 16", x -> x.home(16, 3));
        illegal("cheap 16", x -> x.cheap(16));
        illegal("rows 31", x -> x.rows(3, 3, 31));
        illegal("ring 2", x -> x.ring(3, 2));
        illegal("look 2", x -> x.look(2));
        illegal("chance n 13", x -> x.chance(3, 3, 13, 16, 1));
        illegal("chance q 17", x -> x.chance(3, 3, 12, 17, 1));
        illegal("chance half 2", x -> x.chance(3, 3, 12, 16, 2));
        illegal("from 4", x -> x.from(3, 4));
        illegal("watch q 17", x -> x.watch(0, 17, 48, 3));
        illegal("watch nights 0", x -> x.watch(0, 16, 0, 3));
        illegal("watch nights 49", x -> x.watch(0, 16, 49, 3));
        illegal("watch what 4", x -> x.watch(0, 16, 48, 4));
        illegal("span many 0", x -> x.span(0, 0, 16, 48, 2, 3));
        illegal("span many 11", x -> x.span(0, 11, 16, 48, 2, 3));
        illegal("span q 17", x -> x.span(0, 10, 17, 48, 2, 3));
        illegal("span nights 49", x -> x.span(0, 10, 16, 49, 2, 3));
        illegal("span what 3", x -> x.span(0, 10, 16, 48, 3, 3));
        illegal("span corner 4", x -> x.span(0, 10, 16, 48, 2, 4));
        illegal("all wrong at once is one refusal", x -> x.span(0, 11, 17, 49, 3, 4));
        illegal("all wrong at once is one refusal", x -> x.would(4, -1, -1, -1, -1, -1, -1));
    }

    private void missingOnes() {
        for (int wrong : new int[] {-1, 4, 10, LOWEST, HIGHEST}) {
            missing("corner", x -> x.corner(wrong, 0));
            missing("way", x -> x.way(wrong, 0));
            missing("home", x -> x.home(15, wrong));
            missing("home of none", x -> x.home(0, wrong));
            missing("apart", x -> x.apart(wrong, 0));
            missing("apart other", x -> x.apart(0, wrong));
            missing("apart both", x -> x.apart(wrong, wrong));
            missing("alike", x -> x.alike(wrong));
            missing("rows", x -> x.rows(wrong, 0, 0));
            missing("rows other", x -> x.rows(0, wrong, 0));
            missing("ring", x -> x.ring(wrong, 0));
            missing("chance", x -> x.chance(wrong, 0, 0, 0, 0));
            missing("chance other", x -> x.chance(0, wrong, 0, 0, 0));
            missing("duel", x -> x.duel(wrong, 0));
            missing("duel other", x -> x.duel(0, wrong));
            missing("duel both", x -> x.duel(wrong, wrong));
            missing("reach", x -> x.reach(wrong));
            missing("from", x -> x.from(wrong, 0));
        }
        for (int wrong : new int[] {-1, 3, 5, LOWEST, HIGHEST}) {
            missing("man", x -> x.man(wrong, 0));
        }
        FogWatch x = new FogWatch();
        due("a corner of none", MISSING, () -> x.corner(0, 0));
        due("a man of none", MISSING, () -> x.man(0, 0));
        FogWatch nobody = Probe.in("corner 0;");
        due("no man at a corner", MISSING, () -> nobody.man(0, 0));
    }

    private void missingAheadOfIllegal() {
        missing("corner", x -> x.corner(4, 3));
        missing("way", x -> x.way(4, 4));
        missing("man", x -> x.man(3, 4));
        missing("home", x -> x.home(16, 4));
        missing("rows", x -> x.rows(4, 0, 31));
        missing("rows other", x -> x.rows(0, 4, 31));
        missing("ring", x -> x.ring(4, 2));
        missing("chance", x -> x.chance(4, 0, 13, 17, 2));
        missing("chance other", x -> x.chance(0, 4, 13, 17, 2));
        missing("from", x -> x.from(4, 4));
    }

    private void asked(String what, Probe.Ask ask) {
        FogWatch x = busy();
        long want = ask.of(x);
        due(what + " asked again", want, () -> ask.of(x));
        probe.dueKept(what, want, CallEdgeTest::busy, ask);
    }

    /** Asked, nothing stays changed, nobody is moved. */
    private void askedChangesNothing() {
        asked("fault", FogWatch::fault);
        for (int what = 0; what < 12; what++) {
            int w = what;
            asked("told", x -> x.told(w));
            asked("count", x -> x.count(w));
            asked("status", x -> x.status(w));
        }
        asked("corner", x -> x.corner(3, 2));
        asked("way", x -> x.way(3, 1));
        asked("man", x -> x.man(2, 3));
        asked("cost", x -> x.cost(2));
        asked("would", x -> x.would(3, 999, 999, 10, 5, 400, 200));
        asked("ahead", x -> x.ahead(99, 1));
        asked("goes", x -> x.goes(15));
        asked("reset", x -> x.reset(15, 0));
        asked("reset", x -> x.reset(14, 1));
        asked("row", x -> x.row(14, 0));
        asked("row", x -> x.row(14, HIGHEST));
        asked("home", x -> x.home(15, 0));
        asked("cheap", x -> x.cheap(15));
        asked("apart", x -> x.apart(0, 2));
        asked("alike", x -> x.alike(0));
        asked("kinds", FogWatch::kinds);
        asked("rows", x -> x.rows(1, 0, 30));
        asked("ring", x -> x.ring(1, 0));
        asked("fits", FogWatch::fits);
        asked("now", FogWatch::now);
        asked("look", x -> x.look(0));
        asked("chance", x -> x.chance(1, 2, 12, 3, 0));
        asked("duel", x -> x.duel(1, 2));
        asked("reach", x -> x.reach(1));
        asked("from", x -> x.from(0, 0));
        asked("still", FogWatch::still);
        asked("wind", FogWatch::wind);
        asked("watch", x -> x.watch(1, 16, 48, 0));
        asked("span", x -> x.span(1, 10, 16, 48, 2, 0));
    }
}
